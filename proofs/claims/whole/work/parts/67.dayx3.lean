/-! ===== the class's day: gates, carts, the hour ===== -/
theorem fmF_op {C : Cy} {D : Int → Int → Int} {g g' : Int} (hne : g' ≠ g) : ∀ n : Nat, fmF C (opD C D g) g' n = fmF C D g' n := by
  intro n
  induction n with
  | zero => rfl
  | succ n ih =>
    unfold fmF
    rw [ih]
    have e9 : ∀ q : Int, opD C D g 9 q = D 9 q := fun q => by
      unfold opD
      split
      · rfl
      · simp (disch := omega) only [up_ne]
    have hcond : (opD C D g 3 n = 3 ∧ gah C (opD C D g) n = g') ↔ (D 3 n = 3 ∧ gah C D n = g') := by
      unfold opD
      split
      · exact Iff.rfl
      · next hz =>
        have hfm := (fm_spec C D g (D 10 1).toNat).resolve_left (fun w => hz (Or.inr w.1))
        generalize fmF C D g (D 10 1).toNat = l at *
        rw [gah_eq (D := D) (l := (n : Int)) (by simp (disch := omega) only [up_ne]) (by simp (disch := omega) only [up_ne])]
        by_cases z : (n : Int) = l
        · rw [z]
          simp (disch := omega) only [up_ne, up_eq]
          constructor
          · rintro ⟨w, -⟩; omega
          · rintro ⟨-, w⟩; omega
        · simp (disch := omega) only [up_ne]
    simp only [hcond, e9]
section DAYX3
variable {L : Int → Int} {R F E : Int → Int → Int} {N : Nat} {Q : xQ} {d a y l g : Int} {C : Cy} {D : Int → Int → Int}
theorem sX_fill {x v : Int} (hx : 0 ≤ x) (hl : 0 ≤ L x) (hl2 : L x ≤ 100000) (hQ : ∀ E' : Int → Int → Int, (∀ b j : Int, b ≠ x → E' b j = E b j) → (∀ j : Int, 0 ≤ j → j < L x → E' x j = v) → Q 0 (L, R, F, E', N)) : T_J7_fill_53178 [x, v] (L, R, F, E, N) Q := by
  simp (disch := omega) only [ue_J7_fill_53178, t_J7_fill_53178, zLg, zRf, zFq, zEl, zNz, zUf, zUe, zUr, zCe, zSn, gd_0, gd_1, gd_2, gd_3, gd_4, gd_5, gd_6, gd_7, gd_8, gd_9, gd_10, gd_11, gd_12, gd_13, gd_14, gd_15, gd_16, gd_17, gd_18, gd_19, se_0, se_1, se_2, se_3, se_4, se_5, se_6, se_7, se_8, se_9, se_10, se_11, se_12, se_13, se_14, se_15, se_16, se_17, se_18, se_19, e_const, e_load, e_store, e_iinc, e_dup, e_dup2, e_pop, e_iadd, e_isub, e_imul, e_ladd, e_lsub, e_lmul, e_iaddw, e_isubw, e_imulw, e_laddw, e_lsubw, e_lmulw, e_iand, e_ior, e_ishl, e_ishr, e_iushr, e_lcmp, e_imax, e_imin, e_idiv, e_irem, e_ldiv, e_lrem, e_i2l, e_i2b, e_l2i, e_i2c, e_getF, e_getR, e_putF, e_putR, e_putz, e_ald, e_aldR, e_ast, e_astb, e_astz, e_asta, e_len, e_acopy, e_new, e_newa, e_mna, e_this, e_room, e_call0, e_callv0, e_call1, e_callv1, e_inv1, e_invv1, e_call2, e_callv2, e_inv2, e_invv2, e_call3, e_callv3, e_inv3, e_invv3, e_call4, e_callv4, e_inv4, e_invv4, e_call5, e_callv5, e_inv5, e_invv5, e_call6, e_callv6, e_inv6, e_invv6, e_call7, e_callv7, e_inv7, e_invv7, e_call8, e_callv8, e_inv8, e_invv8, e_ret, e_retz, e_retc, e_retb, e_retv, e_skip, e_sco, e_tlen, e_tat, e_iz_eq0, e_iz_eq1, e_iz_ne0, e_iz_ne1, add0, sc_d, sc_t, inI_e, inL_e, up_eq, true_or, or_true, or_false, false_or, and_true, true_and, not_false_eq_true, Int.reduceAdd, Int.reduceSub, Int.reduceMul, Int.reduceNeg]
  unfold L_J7_fill_53178_5
  refine lpw (fun n l st h c s => ∃ (i : Int) (E' : Int → Int → Int), l = [x, v, i, L x] ∧ st = [] ∧ h = (L, R, F, E', N) ∧ 0 ≤ i ∧ i ≤ L x ∧ (n : Int) = L x - i ∧ (∀ b j : Int, b ≠ x → E' b j = E b j) ∧ (∀ j : Int, 0 ≤ j → j < i → E' x j = v)) ?_ (n := (L x).toNat) ⟨0, E, rfl, rfl, rfl, by omega, by omega, by omega, fun _ _ _ => rfl, fun j _ _ => by omega⟩
  rintro n k hk l st h c s ⟨i, E', rfl, rfl, rfl, hi, hi2, hn, hfr, hinv⟩
  repeat' first
    | exact absurd hc (by decide)
    | simp (disch := omega) only [ue_J7_fill_53178, t_J7_fill_53178, zLg, zRf, zFq, zEl, zNz, zUf, zUe, zUr, zCe, zSn, gd_0, gd_1, gd_2, gd_3, gd_4, gd_5, gd_6, gd_7, gd_8, gd_9, gd_10, gd_11, gd_12, gd_13, gd_14, gd_15, gd_16, gd_17, gd_18, gd_19, se_0, se_1, se_2, se_3, se_4, se_5, se_6, se_7, se_8, se_9, se_10, se_11, se_12, se_13, se_14, se_15, se_16, se_17, se_18, se_19, e_const, e_load, e_store, e_iinc, e_dup, e_dup2, e_pop, e_iadd, e_isub, e_imul, e_ladd, e_lsub, e_lmul, e_iaddw, e_isubw, e_imulw, e_laddw, e_lsubw, e_lmulw, e_iand, e_ior, e_ishl, e_ishr, e_iushr, e_lcmp, e_imax, e_imin, e_idiv, e_irem, e_ldiv, e_lrem, e_i2l, e_i2b, e_l2i, e_i2c, e_getF, e_getR, e_putF, e_putR, e_putz, e_ald, e_aldR, e_ast, e_astb, e_astz, e_asta, e_len, e_acopy, e_new, e_newa, e_mna, e_this, e_room, e_call0, e_callv0, e_call1, e_callv1, e_inv1, e_invv1, e_call2, e_callv2, e_inv2, e_invv2, e_call3, e_callv3, e_inv3, e_invv3, e_call4, e_callv4, e_inv4, e_invv4, e_call5, e_callv5, e_inv5, e_invv5, e_call6, e_callv6, e_inv6, e_invv6, e_call7, e_callv7, e_inv7, e_invv7, e_call8, e_callv8, e_inv8, e_invv8, e_ret, e_retz, e_retc, e_retb, e_retv, e_skip, e_sco, e_tlen, e_tat, e_iz_eq0, e_iz_eq1, e_iz_ne0, e_iz_ne1, add0, sc_d, sc_t, inI_e, inL_e, up_eq, true_or, or_true, or_false, false_or, and_true, true_and, not_false_eq_true, Int.reduceAdd, Int.reduceSub, Int.reduceMul, Int.reduceNeg]
    | with_reducible first | refine izl_lt (fun hc => ?_) (fun hc => ?_) | refine izl_ge (fun hc => ?_) (fun hc => ?_) | refine izl_eq (fun hc => ?_) (fun hc => ?_) | refine ic_ge (fun hc => ?_) (fun hc => ?_) | refine ic_lt (fun hc => ?_) (fun hc => ?_) | refine ic_ne (fun hc => ?_) (fun hc => ?_) | refine ic_eq (fun hc => ?_) (fun hc => ?_) | refine ic_le (fun hc => ?_) (fun hc => ?_) | refine ic_gt (fun hc => ?_) (fun hc => ?_) | refine iz_eq (fun hc => ?_) (fun hc => ?_) | refine iz_ne (fun hc => ?_) (fun hc => ?_) | refine iz_lt (fun hc => ?_) (fun hc => ?_) | refine iz_ge (fun hc => ?_) (fun hc => ?_) | refine iz_gt (fun hc => ?_) (fun hc => ?_) | refine iz_le (fun hc => ?_) (fun hc => ?_) | refine iz_nu (fun hc => ?_) (fun hc => ?_) | refine iz_nn (fun hc => ?_) (fun hc => ?_)
    | omega
    | (exfalso; omega)
  · exact hQ E' hfr fun j x1 x2 => hinv j x1 (by omega)
  · refine hk (n - 1) _ _ _ _ _ (by omega) ⟨i + 1, up E' x i v, rfl, rfl, rfl, by omega, by omega, by omega, fun b j z => (up_ne (by omega)).trans (hfr b j z), fun j x1 x2 => ?_⟩
    by_cases z : j = i
    · rw [up_at rfl z]
    · rw [up_ne (by omega)]; exact hinv j x1 (by omega)
theorem sX_thingOf (hS : dyS d a y C L R F E) (hR : dR d D E) (hl : ldV C D l) (hn : D 10 1 ≤ 72) (h0 : 0 ≤ l) (h1 : l < D 10 1) (hQ : ∀ t : Int, thT t L R → thM t (thO C (D 0 l)) F E → Q t (L, R, F, E, N)) : T_X2_thingOf [d, l] (L, R, F, E, N) Q := by
  have hT := ds_t hS
  have hT2 := ds_ct hS
  have hM := ds_cm hS
  have hW := ds_cw hS
  have pd := dt_p hT
  have pa := ct_p hT2
  have hy := ds_y hS
  have b3 := cw_3 hW
  have b4 := cw_4 hW
  obtain ⟨a0, af, a8⟩ := hl
  obtain ⟨w0, w6, wl, w1, w5, wg⟩ := ds_o hS a0.1 a0.2 af
  have k0 := cw_o0 hW _ a0.1 a0.2
  have r0 := hR 0 l (by omega) (by omega) h0 h1
  have c1 := (bO_01 C (D 0 l)).2
  have et : thO C (D 0 l) = if bO C (D 0 l) 1 = 1 then pt C (C 5 (D 0 l) 0) else wh C (C 5 (D 0 l) 0) := rfl
  repeat' first
    | exact absurd hc (by decide)
    | with_reducible refine sX_thing hT2 ?_ ?_ (fun hcu => ?_) (fun hcu => ?_)
    | simp (disch := omega) only [ue_X2_thingOf, t_X2_thingOf, zLg, zRf, zFq, zEl, zNz, zUf, zUe, zUr, zCe, zSn, gd_0, gd_1, gd_2, gd_3, gd_4, gd_5, gd_6, gd_7, gd_8, gd_9, gd_10, gd_11, gd_12, gd_13, gd_14, gd_15, gd_16, gd_17, gd_18, gd_19, se_0, se_1, se_2, se_3, se_4, se_5, se_6, se_7, se_8, se_9, se_10, se_11, se_12, se_13, se_14, se_15, se_16, se_17, se_18, se_19, e_const, e_load, e_store, e_iinc, e_dup, e_dup2, e_pop, e_iadd, e_isub, e_imul, e_ladd, e_lsub, e_lmul, e_iaddw, e_isubw, e_imulw, e_laddw, e_lsubw, e_lmulw, e_iand, e_ior, e_ishl, e_ishr, e_iushr, e_lcmp, e_imax, e_imin, e_idiv, e_irem, e_ldiv, e_lrem, e_i2l, e_i2b, e_l2i, e_i2c, e_getF, e_getR, e_putF, e_putR, e_putz, e_ald, e_aldR, e_ast, e_astb, e_astz, e_asta, e_len, e_acopy, e_new, e_newa, e_mna, e_this, e_room, e_call0, e_callv0, e_call1, e_callv1, e_inv1, e_invv1, e_call2, e_callv2, e_inv2, e_invv2, e_call3, e_callv3, e_inv3, e_invv3, e_call4, e_callv4, e_inv4, e_invv4, e_call5, e_callv5, e_inv5, e_invv5, e_call6, e_callv6, e_inv6, e_invv6, e_call7, e_callv7, e_inv7, e_invv7, e_call8, e_callv8, e_inv8, e_invv8, e_ret, e_retz, e_retc, e_retb, e_retv, e_skip, e_sco, e_tlen, e_tat, e_iz_eq0, e_iz_eq1, e_iz_ne0, e_iz_ne1, add0, sc_d, sc_t, inI_e, inL_e, up_eq, true_or, or_true, or_false, false_or, and_true, true_and, not_false_eq_true, Int.reduceAdd, Int.reduceSub, Int.reduceMul, Int.reduceNeg, ds_8 hS, ds_9 hS, dt_2 hT, dt_l1 hT, dt_r hT, dt_lr hT, r0, hy.2.1, w0, w1, ct_9 hT2, ct_l30 hT2, ct_or hT2, ct_ol hT2, cm_o hM]
    | with_reducible first | refine izl_lt (fun hc => ?_) (fun hc => ?_) | refine izl_ge (fun hc => ?_) (fun hc => ?_) | refine izl_eq (fun hc => ?_) (fun hc => ?_) | refine ic_ge (fun hc => ?_) (fun hc => ?_) | refine ic_lt (fun hc => ?_) (fun hc => ?_) | refine ic_ne (fun hc => ?_) (fun hc => ?_) | refine ic_eq (fun hc => ?_) (fun hc => ?_) | refine ic_le (fun hc => ?_) (fun hc => ?_) | refine ic_gt (fun hc => ?_) (fun hc => ?_) | refine iz_eq (fun hc => ?_) (fun hc => ?_) | refine iz_ne (fun hc => ?_) (fun hc => ?_) | refine iz_lt (fun hc => ?_) (fun hc => ?_) | refine iz_ge (fun hc => ?_) (fun hc => ?_) | refine iz_gt (fun hc => ?_) (fun hc => ?_) | refine iz_le (fun hc => ?_) (fun hc => ?_) | refine iz_nu (fun hc => ?_) (fun hc => ?_) | refine iz_nn (fun hc => ?_) (fun hc => ?_)
    | omega
    | (exfalso; omega)
  · refine hQ _ (ct_pt hT2 _ (by omega) (by omega)) ?_
    rw [et, if_pos (by omega)]
    exact cm_pt hM _ k0.1 k0.2
  · refine hQ _ (ct_wt hT2 _ (by omega) (by omega)) ?_
    rw [et, if_neg (by omega)]
    exact cm_wh hM _ k0.1 k0.2
theorem sX_loadOver (hS : dyS d a y C L R F E) (hX : dyX d C D F E) (hw : dWf C D) {K : Int} (hK : dK D K) (hK2 : K ≤ 1000000) (h0 : 0 ≤ l) (h1 : l < D 10 1) (g0 : 0 ≤ g) (g1 : g < C 0 1 0) (h3 : D 3 l = 3) (hgl : gah C D l = g) (hbz : ∀ l' : Int, 0 ≤ l' → l' < D 10 1 → ¬ (D 3 l' = 4 ∧ gah C D l' = g)) (hQ : ∀ E' : Int → Int → Int, dyX d C (up (up (up (up D 3 l 4) 4 l (hrsP C (thO C (D 0 l)) g)) 11 g (D 11 g + C 2 g 5)) 12 g (D 12 g + hrsP C (thO C (D 0 l)) g * C 2 g 4)) F E' → frI d (d + 16) E E' → Q 0 (L, R, F, E', N)) : T_X2_loadOver [d, l, g] (L, R, F, E, N) Q := by
  have hT := ds_t hS
  have hT2 := ds_ct hS
  have hM := ds_cm hS
  have hW := ds_cw hS
  have pd := dt_p hT
  have pa := ct_p hT2
  have hy := ds_y hS
  have b1 := cw_1 hW
  obtain ⟨x1, x2, hR, hcr, hg, ht⟩ := hX
  have hn := hw.2.1
  have hl := hw.2.2.1 l h0 h1
  have hth := thO_W hW hl.1.1 hl.1.2
  have hb := hrsB hW hth g0 g1
  have g4 := cw_g4 hW g g0 g1
  have g5 := cw_g5 hW g g0 g1
  have kg := hK.1 g g0 (by omega)
  have tg := ht g g0 (by omega)
  have m4 := cm_g hM g 4 g0 g1 (by omega) (by omega)
  have m5 := cm_g hM g 5 g0 g1 (by omega) (by omega)
  repeat' first
    | exact absurd hc (by decide)
    | with_reducible refine sX_thingOf hS hR hl.v ?_ h0 h1 (fun t q1 q2 => ?_)
    | with_reducible refine sX_loadingHours hT2 hM hW q1 q2 hth g0 g1 ?_
    | simp (disch := omega) only [ue_X2_loadOver, t_X2_loadOver, zLg, zRf, zFq, zEl, zNz, zUf, zUe, zUr, zCe, zSn, gd_0, gd_1, gd_2, gd_3, gd_4, gd_5, gd_6, gd_7, gd_8, gd_9, gd_10, gd_11, gd_12, gd_13, gd_14, gd_15, gd_16, gd_17, gd_18, gd_19, se_0, se_1, se_2, se_3, se_4, se_5, se_6, se_7, se_8, se_9, se_10, se_11, se_12, se_13, se_14, se_15, se_16, se_17, se_18, se_19, e_const, e_load, e_store, e_iinc, e_dup, e_dup2, e_pop, e_iadd, e_isub, e_imul, e_ladd, e_lsub, e_lmul, e_iaddw, e_isubw, e_imulw, e_laddw, e_lsubw, e_lmulw, e_iand, e_ior, e_ishl, e_ishr, e_iushr, e_lcmp, e_imax, e_imin, e_idiv, e_irem, e_ldiv, e_lrem, e_i2l, e_i2b, e_l2i, e_i2c, e_getF, e_getR, e_putF, e_putR, e_putz, e_ald, e_aldR, e_ast, e_astb, e_astz, e_asta, e_len, e_acopy, e_new, e_newa, e_mna, e_this, e_room, e_call0, e_callv0, e_call1, e_callv1, e_inv1, e_invv1, e_call2, e_callv2, e_inv2, e_invv2, e_call3, e_callv3, e_inv3, e_invv3, e_call4, e_callv4, e_inv4, e_invv4, e_call5, e_callv5, e_inv5, e_invv5, e_call6, e_callv6, e_inv6, e_invv6, e_call7, e_callv7, e_inv7, e_invv7, e_call8, e_callv8, e_inv8, e_invv8, e_ret, e_retz, e_retc, e_retb, e_retv, e_skip, e_sco, e_tlen, e_tat, e_iz_eq0, e_iz_eq1, e_iz_ne0, e_iz_ne1, add0, sc_d, sc_t, inI_e, inL_e, up_eq, true_or, or_true, or_false, false_or, and_true, true_and, not_false_eq_true, Int.reduceAdd, Int.reduceSub, Int.reduceMul, Int.reduceNeg, up_ne, ds_8 hS, dt_2 hT, dt_4 hT, dt_5 hT, dt_6 hT, dt_l1 hT, dt_l13 hT, dt_l14 hT, dt_l15 hT, dt_r hT, dt_lr hT, ct_6 hT2, ct_l2 hT2, ct_gr hT2, ct_gl hT2, m4, m5, tg.1, tg.2]
    | with_reducible first | refine izl_lt (fun hc => ?_) (fun hc => ?_) | refine izl_ge (fun hc => ?_) (fun hc => ?_) | refine izl_eq (fun hc => ?_) (fun hc => ?_) | refine ic_ge (fun hc => ?_) (fun hc => ?_) | refine ic_lt (fun hc => ?_) (fun hc => ?_) | refine ic_ne (fun hc => ?_) (fun hc => ?_) | refine ic_eq (fun hc => ?_) (fun hc => ?_) | refine ic_le (fun hc => ?_) (fun hc => ?_) | refine ic_gt (fun hc => ?_) (fun hc => ?_) | refine iz_eq (fun hc => ?_) (fun hc => ?_) | refine iz_ne (fun hc => ?_) (fun hc => ?_) | refine iz_lt (fun hc => ?_) (fun hc => ?_) | refine iz_ge (fun hc => ?_) (fun hc => ?_) | refine iz_gt (fun hc => ?_) (fun hc => ?_) | refine iz_le (fun hc => ?_) (fun hc => ?_) | refine iz_nu (fun hc => ?_) (fun hc => ?_) | refine iz_nn (fun hc => ?_) (fun hc => ?_)
    | omega
    | (exfalso; omega)
  generalize hh : hrsP C (thO C (D 0 l)) g = hr at *
  refine hQ _ ⟨by simp (disch := omega) only [up_ne]; exact x1, by simp (disch := omega) only [up_ne]; exact x2, ?_, fun c u v => ?_, fun q u v => ?_, fun q u v => ?_⟩ (fun b j z => by simp (disch := omega) only [up_ne])
  · intro w q u v x z
    have z' : q < D 10 1 := by simpa (disch := omega) only [up_ne] using z
    by_cases c1 : w = 3 ∧ q = l
    · obtain ⟨rfl, rfl⟩ := c1
      simp (disch := omega) only [up_ne, up_eq]
    · by_cases c2 : w = 4 ∧ q = l
      · obtain ⟨rfl, rfl⟩ := c2
        simp (disch := omega) only [up_ne, up_eq]
      · simp (disch := omega) only [up_ne]
        exact hR w q u v x z'
  · simp (disch := omega) only [up_ne]
    exact onV_same (fun q _ _ => by simp (disch := omega) only [up_ne]) (by simp (disch := omega) only [up_ne]) (hcr c u v)
  · have eg : ∀ z : Int, gah C (up (up (up (up D 3 l 4) 4 l hr) 11 g (D 11 g + C 2 g 5)) 12 g (D 12 g + hr * C 2 g 4)) z = gah C D z := fun z => gah_eq (by simp (disch := omega) only [up_ne]) (by simp (disch := omega) only [up_ne])
    have e10 : up (up (up (up D 3 l 4) 4 l hr) 11 g (D 11 g + C 2 g 5)) 12 g (D 12 g + hr * C 2 g 4) 10 1 = D 10 1 := by simp (disch := omega) only [up_ne]
    unfold bzV
    rw [e10]
    simp only [eg]
    by_cases z : q = g
    · subst z
      refine Or.inr ?_
      simp (disch := omega) only [up_ne, up_eq]
      exact ⟨h0, h1, trivial, hgl⟩
    · have hq := hg q u v
      unfold bzV at hq
      rcases hq with ⟨q1, q2⟩ | ⟨q1, q2, q3, q4⟩
      · refine Or.inl ⟨by simp (disch := omega) only [up_ne]; exact q1, fun l' x1 x2 => ?_⟩
        by_cases zl : l' = l
        · subst zl; exact fun w => z (by omega)
        · simp (disch := omega) only [up_ne]
          exact q2 l' x1 x2
      · refine Or.inr ?_
        have zl : E (d + 13) q ≠ l := fun w => by rw [w] at q3; omega
        simp (disch := omega) only [up_ne]
        exact ⟨q1, q2, q3, q4⟩
  · have hq := ht q u v
    by_cases z : q = g
    · subst z
      simp (disch := omega) only [up_ne, up_eq]
      exact ⟨trivial, trivial⟩
    · simp (disch := omega) only [up_ne]
      exact hq
theorem sX_serveGates (hS : dyS d a y C L R F E) (hX : dyX d C D F E) (hw : dWf C D) {K : Int} (hK : dK D K) (hK2 : K ≤ 500000) (hQ : ∀ E' : Int → Int → Int, dyX d C (itD (opD C) D (C 0 1 0).toNat) F E' → frI d (d + 17) E E' → Q 0 (L, R, F, E', N)) : T_X2_serveGates [d] (L, R, F, E, N) Q := by
  have hT := ds_t hS
  have hT2 := ds_ct hS
  have hW := ds_cw hS
  have pd := dt_p hT
  have pa := ct_p hT2
  have b1 := cw_1 hW
  have hy := ds_y hS
  have hn := hw.2.1
  have x2 := hX.2.1
  have l16 := dt_l16 hT
  repeat' first
    | exact absurd hc (by decide)
    | with_reducible refine sX_fill ?_ ?_ ?_ (fun E1 f1 f2 => ?_)
    | simp (disch := omega) only [ub_X2_serveGates_139, ub_X2_serveGates_88, ub_X2_serveGates_81, ub_X2_serveGates_39, ue_X2_serveGates, t_X2_serveGates, zLg, zRf, zFq, zEl, zNz, zUf, zUe, zUr, zCe, zSn, gd_0, gd_1, gd_2, gd_3, gd_4, gd_5, gd_6, gd_7, gd_8, gd_9, gd_10, gd_11, gd_12, gd_13, gd_14, gd_15, gd_16, gd_17, gd_18, gd_19, se_0, se_1, se_2, se_3, se_4, se_5, se_6, se_7, se_8, se_9, se_10, se_11, se_12, se_13, se_14, se_15, se_16, se_17, se_18, se_19, e_const, e_load, e_store, e_iinc, e_dup, e_dup2, e_pop, e_iadd, e_isub, e_imul, e_ladd, e_lsub, e_lmul, e_iaddw, e_isubw, e_imulw, e_laddw, e_lsubw, e_lmulw, e_iand, e_ior, e_ishl, e_ishr, e_iushr, e_lcmp, e_imax, e_imin, e_idiv, e_irem, e_ldiv, e_lrem, e_i2l, e_i2b, e_l2i, e_i2c, e_getF, e_getR, e_putF, e_putR, e_putz, e_ald, e_aldR, e_ast, e_astb, e_astz, e_asta, e_len, e_acopy, e_new, e_newa, e_mna, e_this, e_room, e_call0, e_callv0, e_call1, e_callv1, e_inv1, e_invv1, e_call2, e_callv2, e_inv2, e_invv2, e_call3, e_callv3, e_inv3, e_invv3, e_call4, e_callv4, e_inv4, e_invv4, e_call5, e_callv5, e_inv5, e_invv5, e_call6, e_callv6, e_inv6, e_invv6, e_call7, e_callv7, e_inv7, e_invv7, e_call8, e_callv8, e_inv8, e_invv8, e_ret, e_retz, e_retc, e_retb, e_retv, e_skip, e_sco, e_tlen, e_tat, e_iz_eq0, e_iz_eq1, e_iz_ne0, e_iz_ne1, add0, sc_d, sc_t, inI_e, inL_e, up_eq, true_or, or_true, or_false, false_or, and_true, true_and, not_false_eq_true, Int.reduceAdd, Int.reduceSub, Int.reduceMul, Int.reduceNeg, dt_7 hT]
    | with_reducible first | refine izl_lt (fun hc => ?_) (fun hc => ?_) | refine izl_ge (fun hc => ?_) (fun hc => ?_) | refine izl_eq (fun hc => ?_) (fun hc => ?_) | refine ic_ge (fun hc => ?_) (fun hc => ?_) | refine ic_lt (fun hc => ?_) (fun hc => ?_) | refine ic_ne (fun hc => ?_) (fun hc => ?_) | refine ic_eq (fun hc => ?_) (fun hc => ?_) | refine ic_le (fun hc => ?_) (fun hc => ?_) | refine ic_gt (fun hc => ?_) (fun hc => ?_) | refine iz_eq (fun hc => ?_) (fun hc => ?_) | refine iz_ne (fun hc => ?_) (fun hc => ?_) | refine iz_lt (fun hc => ?_) (fun hc => ?_) | refine iz_ge (fun hc => ?_) (fun hc => ?_) | refine iz_gt (fun hc => ?_) (fun hc => ?_) | refine iz_le (fun hc => ?_) (fun hc => ?_) | refine iz_nu (fun hc => ?_) (fun hc => ?_) | refine iz_nn (fun hc => ?_) (fun hc => ?_)
    | omega
    | (exfalso; omega)
  rw [l16] at f2
  unfold L_X2_serveGates_10
  refine lpw (fun n l st h c s => ∃ (i z : Int) (E' : Int → Int → Int), l = [d, i, z] ∧ st = [] ∧ h = (L, R, F, E', N) ∧ 0 ≤ i ∧ i ≤ D 10 1 ∧ (n : Int) = D 10 1 - i ∧ (∀ b j : Int, b ≠ d + 16 → E' b j = E b j) ∧ (∀ g : Int, 0 ≤ g → g < 11 → E' (d + 16) g = fmF C D g i.toNat)) ?_ (n := (D 10 1).toNat) ⟨0, 0, E1, rfl, rfl, rfl, by omega, by omega, by omega, f1, fun g u v => f2 g u v⟩
  rintro n k hk lo st h c s ⟨i, z, E', rfl, rfl, rfl, hi, hi2, hn1, hfr, hfm⟩
  have hfi : frI d (d + 17) E E' := fun b j z => hfr b j (by omega)
  have hS' := hS.fi (frI.rf (F := F)) hfi
  have hX' : dyX d C D F E' := by
    obtain ⟨x1, x2, hR, hcr, hg, ht⟩ := hX
    exact ⟨x1, x2, hR.fr fun b j u v => hfr b j (by omega), fun c u v => by rw [hfr _ _ (by omega)]; exact hcr c u v, fun g u v => by rw [hfr _ _ (by omega)]; exact hg g u v, fun g u v => by rw [hfr _ _ (by omega), hfr _ _ (by omega)]; exact ht g u v⟩
  have hR := hX'.2.2.1
  by_cases hlt : i < D 10 1
  · have hl := hw.2.2.1 i hi hlt
    have gb := gah_b hW hl
    have r3 := hR 3 i (by omega) (by omega) hi hlt
    have r9 := hR 9 i (by omega) (by omega) hi hlt
    have efm : ∀ g : Int, fmF C D g (i + 1).toNat = if (D 3 i = 3 ∧ gah C D i = g) ∧ (fmF C D g i.toNat = -1 ∨ D 9 i < D 9 (fmF C D g i.toNat)) then i else fmF C D g i.toNat := fun g => by
      have e : (i + 1).toNat = i.toNat + 1 := by omega
      rw [e]
      show (if (D 3 (i.toNat : Int) = 3 ∧ gah C D (i.toNat : Int) = g) ∧ (fmF C D g i.toNat = -1 ∨ D 9 (i.toNat : Int) < D 9 (fmF C D g i.toNat)) then (i.toNat : Int) else fmF C D g i.toNat) = _
      rw [Int.toNat_of_nonneg hi]
    have skip : (∀ g : Int, 0 ≤ g → g < 11 → ¬ ((D 3 i = 3 ∧ gah C D i = g) ∧ (fmF C D g i.toNat = -1 ∨ D 9 i < D 9 (fmF C D g i.toNat)))) → ∀ z : Int, k [d, i + 1, z] [] (L, R, F, E', N) c s := fun hno z => hk (n - 1) _ _ _ _ _ (by omega) ⟨i + 1, z, E', rfl, rfl, rfl, by omega, by omega, by omega, hfr, fun g u v => by rw [efm, if_neg (hno g u v)]; exact hfm g u v⟩
    by_cases h3 : D 3 i = 3
    · have hgl : gah C D i ≠ -1 := by
        have := hl.2.2.2.2.2.2.2.2 (Or.inl h3)
        omega
      have gb := gb.resolve_left (fun w => hgl w.1)
      have hfg := hfm (gah C D i) gb.1 (by omega)
      have fs := fm_spec C D (gah C D i) i.toNat
      have take : (fmF C D (gah C D i) i.toNat = -1 ∨ D 9 i < D 9 (fmF C D (gah C D i) i.toNat)) → k [d, i + 1, gah C D i] [] (L, R, F, up E' (d + 16) (gah C D i) i, N) c s := fun hor => by
        refine hk (n - 1) _ _ _ _ _ (by omega) ⟨i + 1, gah C D i, up E' (d + 16) (gah C D i) i, rfl, rfl, rfl, by omega, by omega, by omega, fun b j w => (up_ne (by omega)).trans (hfr b j w), fun g u v => ?_⟩
        rw [efm]
        by_cases z : g = gah C D i
        · subst z
          rw [up_eq, if_pos ⟨⟨h3, rfl⟩, hor⟩]
        · rw [up_ne (by omega), if_neg (fun w => z w.1.2.symm)]
          exact hfm g u v
      have r9f : fmF C D (gah C D i) i.toNat ≠ -1 → E' (d + 2 + 9) (fmF C D (gah C D i) i.toNat) = D 9 (fmF C D (gah C D i) i.toNat) := fun w => hR 9 _ (by omega) (by omega) (by omega) (by omega)
      by_cases hf1 : fmF C D (gah C D i) i.toNat = -1
      · rw [hf1] at hfg
        repeat' first
          | exact absurd hc (by decide)
          | with_reducible refine sX_gateAhead hS' hR hl.v ?_ hi hlt ?_
          | simp (disch := omega) only [ub_X2_serveGates_139, ub_X2_serveGates_88, ub_X2_serveGates_81, ub_X2_serveGates_39, ue_X2_serveGates, t_X2_serveGates, zLg, zRf, zFq, zEl, zNz, zUf, zUe, zUr, zCe, zSn, gd_0, gd_1, gd_2, gd_3, gd_4, gd_5, gd_6, gd_7, gd_8, gd_9, gd_10, gd_11, gd_12, gd_13, gd_14, gd_15, gd_16, gd_17, gd_18, gd_19, se_0, se_1, se_2, se_3, se_4, se_5, se_6, se_7, se_8, se_9, se_10, se_11, se_12, se_13, se_14, se_15, se_16, se_17, se_18, se_19, e_const, e_load, e_store, e_iinc, e_dup, e_dup2, e_pop, e_iadd, e_isub, e_imul, e_ladd, e_lsub, e_lmul, e_iaddw, e_isubw, e_imulw, e_laddw, e_lsubw, e_lmulw, e_iand, e_ior, e_ishl, e_ishr, e_iushr, e_lcmp, e_imax, e_imin, e_idiv, e_irem, e_ldiv, e_lrem, e_i2l, e_i2b, e_l2i, e_i2c, e_getF, e_getR, e_putF, e_putR, e_putz, e_ald, e_aldR, e_ast, e_astb, e_astz, e_asta, e_len, e_acopy, e_new, e_newa, e_mna, e_this, e_room, e_call0, e_callv0, e_call1, e_callv1, e_inv1, e_invv1, e_call2, e_callv2, e_inv2, e_invv2, e_call3, e_callv3, e_inv3, e_invv3, e_call4, e_callv4, e_inv4, e_invv4, e_call5, e_callv5, e_inv5, e_invv5, e_call6, e_callv6, e_inv6, e_invv6, e_call7, e_callv7, e_inv7, e_invv7, e_call8, e_callv8, e_inv8, e_invv8, e_ret, e_retz, e_retc, e_retb, e_retv, e_skip, e_sco, e_tlen, e_tat, e_iz_eq0, e_iz_eq1, e_iz_ne0, e_iz_ne1, add0, sc_d, sc_t, inI_e, inL_e, up_eq, true_or, or_true, or_false, false_or, and_true, true_and, not_false_eq_true, Int.reduceAdd, Int.reduceSub, Int.reduceMul, Int.reduceNeg, x2, r3, h3, hfg, dt_2 hT, dt_7 hT, l16, dt_l1 hT, dt_r hT, dt_lr hT]
          | with_reducible first | refine izl_lt (fun hc => ?_) (fun hc => ?_) | refine izl_ge (fun hc => ?_) (fun hc => ?_) | refine izl_eq (fun hc => ?_) (fun hc => ?_) | refine ic_ge (fun hc => ?_) (fun hc => ?_) | refine ic_lt (fun hc => ?_) (fun hc => ?_) | refine ic_ne (fun hc => ?_) (fun hc => ?_) | refine ic_eq (fun hc => ?_) (fun hc => ?_) | refine ic_le (fun hc => ?_) (fun hc => ?_) | refine ic_gt (fun hc => ?_) (fun hc => ?_) | refine iz_eq (fun hc => ?_) (fun hc => ?_) | refine iz_ne (fun hc => ?_) (fun hc => ?_) | refine iz_lt (fun hc => ?_) (fun hc => ?_) | refine iz_ge (fun hc => ?_) (fun hc => ?_) | refine iz_gt (fun hc => ?_) (fun hc => ?_) | refine iz_le (fun hc => ?_) (fun hc => ?_) | refine iz_nu (fun hc => ?_) (fun hc => ?_) | refine iz_nn (fun hc => ?_) (fun hc => ?_)
          | omega
          | (exfalso; omega)
        exact take (Or.inl hf1)
      · have r9f := r9f hf1
        repeat' first
          | exact absurd hc (by decide)
          | with_reducible refine sX_gateAhead hS' hR hl.v ?_ hi hlt ?_
          | simp (disch := omega) only [ub_X2_serveGates_139, ub_X2_serveGates_88, ub_X2_serveGates_81, ub_X2_serveGates_39, ue_X2_serveGates, t_X2_serveGates, zLg, zRf, zFq, zEl, zNz, zUf, zUe, zUr, zCe, zSn, gd_0, gd_1, gd_2, gd_3, gd_4, gd_5, gd_6, gd_7, gd_8, gd_9, gd_10, gd_11, gd_12, gd_13, gd_14, gd_15, gd_16, gd_17, gd_18, gd_19, se_0, se_1, se_2, se_3, se_4, se_5, se_6, se_7, se_8, se_9, se_10, se_11, se_12, se_13, se_14, se_15, se_16, se_17, se_18, se_19, e_const, e_load, e_store, e_iinc, e_dup, e_dup2, e_pop, e_iadd, e_isub, e_imul, e_ladd, e_lsub, e_lmul, e_iaddw, e_isubw, e_imulw, e_laddw, e_lsubw, e_lmulw, e_iand, e_ior, e_ishl, e_ishr, e_iushr, e_lcmp, e_imax, e_imin, e_idiv, e_irem, e_ldiv, e_lrem, e_i2l, e_i2b, e_l2i, e_i2c, e_getF, e_getR, e_putF, e_putR, e_putz, e_ald, e_aldR, e_ast, e_astb, e_astz, e_asta, e_len, e_acopy, e_new, e_newa, e_mna, e_this, e_room, e_call0, e_callv0, e_call1, e_callv1, e_inv1, e_invv1, e_call2, e_callv2, e_inv2, e_invv2, e_call3, e_callv3, e_inv3, e_invv3, e_call4, e_callv4, e_inv4, e_invv4, e_call5, e_callv5, e_inv5, e_invv5, e_call6, e_callv6, e_inv6, e_invv6, e_call7, e_callv7, e_inv7, e_invv7, e_call8, e_callv8, e_inv8, e_invv8, e_ret, e_retz, e_retc, e_retb, e_retv, e_skip, e_sco, e_tlen, e_tat, e_iz_eq0, e_iz_eq1, e_iz_ne0, e_iz_ne1, add0, sc_d, sc_t, inI_e, inL_e, up_eq, true_or, or_true, or_false, false_or, and_true, true_and, not_false_eq_true, Int.reduceAdd, Int.reduceSub, Int.reduceMul, Int.reduceNeg, x2, r3, h3, r9, hfg, r9f, dt_2 hT, dt_7 hT, l16, dt_l1 hT, dt_r hT, dt_lr hT]
          | with_reducible first | refine izl_lt (fun hc => ?_) (fun hc => ?_) | refine izl_ge (fun hc => ?_) (fun hc => ?_) | refine izl_eq (fun hc => ?_) (fun hc => ?_) | refine ic_ge (fun hc => ?_) (fun hc => ?_) | refine ic_lt (fun hc => ?_) (fun hc => ?_) | refine ic_ne (fun hc => ?_) (fun hc => ?_) | refine ic_eq (fun hc => ?_) (fun hc => ?_) | refine ic_le (fun hc => ?_) (fun hc => ?_) | refine ic_gt (fun hc => ?_) (fun hc => ?_) | refine iz_eq (fun hc => ?_) (fun hc => ?_) | refine iz_ne (fun hc => ?_) (fun hc => ?_) | refine iz_lt (fun hc => ?_) (fun hc => ?_) | refine iz_ge (fun hc => ?_) (fun hc => ?_) | refine iz_gt (fun hc => ?_) (fun hc => ?_) | refine iz_le (fun hc => ?_) (fun hc => ?_) | refine iz_nu (fun hc => ?_) (fun hc => ?_) | refine iz_nn (fun hc => ?_) (fun hc => ?_)
          | omega
          | (exfalso; omega)
        · refine skip (fun g u v w => ?_) _
          obtain ⟨⟨-, w1⟩, w2⟩ := w
          rw [← w1] at w2
          omega
        · exact take (Or.inr (by omega))
    · repeat' first
        | exact absurd hc (by decide)
        | simp (disch := omega) only [ub_X2_serveGates_139, ub_X2_serveGates_88, ub_X2_serveGates_81, ub_X2_serveGates_39, ue_X2_serveGates, t_X2_serveGates, zLg, zRf, zFq, zEl, zNz, zUf, zUe, zUr, zCe, zSn, gd_0, gd_1, gd_2, gd_3, gd_4, gd_5, gd_6, gd_7, gd_8, gd_9, gd_10, gd_11, gd_12, gd_13, gd_14, gd_15, gd_16, gd_17, gd_18, gd_19, se_0, se_1, se_2, se_3, se_4, se_5, se_6, se_7, se_8, se_9, se_10, se_11, se_12, se_13, se_14, se_15, se_16, se_17, se_18, se_19, e_const, e_load, e_store, e_iinc, e_dup, e_dup2, e_pop, e_iadd, e_isub, e_imul, e_ladd, e_lsub, e_lmul, e_iaddw, e_isubw, e_imulw, e_laddw, e_lsubw, e_lmulw, e_iand, e_ior, e_ishl, e_ishr, e_iushr, e_lcmp, e_imax, e_imin, e_idiv, e_irem, e_ldiv, e_lrem, e_i2l, e_i2b, e_l2i, e_i2c, e_getF, e_getR, e_putF, e_putR, e_putz, e_ald, e_aldR, e_ast, e_astb, e_astz, e_asta, e_len, e_acopy, e_new, e_newa, e_mna, e_this, e_room, e_call0, e_callv0, e_call1, e_callv1, e_inv1, e_invv1, e_call2, e_callv2, e_inv2, e_invv2, e_call3, e_callv3, e_inv3, e_invv3, e_call4, e_callv4, e_inv4, e_invv4, e_call5, e_callv5, e_inv5, e_invv5, e_call6, e_callv6, e_inv6, e_invv6, e_call7, e_callv7, e_inv7, e_invv7, e_call8, e_callv8, e_inv8, e_invv8, e_ret, e_retz, e_retc, e_retb, e_retv, e_skip, e_sco, e_tlen, e_tat, e_iz_eq0, e_iz_eq1, e_iz_ne0, e_iz_ne1, add0, sc_d, sc_t, inI_e, inL_e, up_eq, true_or, or_true, or_false, false_or, and_true, true_and, not_false_eq_true, Int.reduceAdd, Int.reduceSub, Int.reduceMul, Int.reduceNeg, x2, r3, dt_2 hT, dt_7 hT, l16, dt_l1 hT, dt_r hT, dt_lr hT]
        | with_reducible first | refine izl_lt (fun hc => ?_) (fun hc => ?_) | refine izl_ge (fun hc => ?_) (fun hc => ?_) | refine izl_eq (fun hc => ?_) (fun hc => ?_) | refine ic_ge (fun hc => ?_) (fun hc => ?_) | refine ic_lt (fun hc => ?_) (fun hc => ?_) | refine ic_ne (fun hc => ?_) (fun hc => ?_) | refine ic_eq (fun hc => ?_) (fun hc => ?_) | refine ic_le (fun hc => ?_) (fun hc => ?_) | refine ic_gt (fun hc => ?_) (fun hc => ?_) | refine iz_eq (fun hc => ?_) (fun hc => ?_) | refine iz_ne (fun hc => ?_) (fun hc => ?_) | refine iz_lt (fun hc => ?_) (fun hc => ?_) | refine iz_ge (fun hc => ?_) (fun hc => ?_) | refine iz_gt (fun hc => ?_) (fun hc => ?_) | refine iz_le (fun hc => ?_) (fun hc => ?_) | refine iz_nu (fun hc => ?_) (fun hc => ?_) | refine iz_nn (fun hc => ?_) (fun hc => ?_)
        | omega
        | (exfalso; omega)
      exact skip (fun g u v w => h3 w.1.1) _
  · have hie : i = D 10 1 := by omega
    rw [hie] at hfm
    repeat' first
      | exact absurd hc (by decide)
      | simp (disch := omega) only [ub_X2_serveGates_139, ub_X2_serveGates_88, ub_X2_serveGates_81, ub_X2_serveGates_39, ue_X2_serveGates, t_X2_serveGates, zLg, zRf, zFq, zEl, zNz, zUf, zUe, zUr, zCe, zSn, gd_0, gd_1, gd_2, gd_3, gd_4, gd_5, gd_6, gd_7, gd_8, gd_9, gd_10, gd_11, gd_12, gd_13, gd_14, gd_15, gd_16, gd_17, gd_18, gd_19, se_0, se_1, se_2, se_3, se_4, se_5, se_6, se_7, se_8, se_9, se_10, se_11, se_12, se_13, se_14, se_15, se_16, se_17, se_18, se_19, e_const, e_load, e_store, e_iinc, e_dup, e_dup2, e_pop, e_iadd, e_isub, e_imul, e_ladd, e_lsub, e_lmul, e_iaddw, e_isubw, e_imulw, e_laddw, e_lsubw, e_lmulw, e_iand, e_ior, e_ishl, e_ishr, e_iushr, e_lcmp, e_imax, e_imin, e_idiv, e_irem, e_ldiv, e_lrem, e_i2l, e_i2b, e_l2i, e_i2c, e_getF, e_getR, e_putF, e_putR, e_putz, e_ald, e_aldR, e_ast, e_astb, e_astz, e_asta, e_len, e_acopy, e_new, e_newa, e_mna, e_this, e_room, e_call0, e_callv0, e_call1, e_callv1, e_inv1, e_invv1, e_call2, e_callv2, e_inv2, e_invv2, e_call3, e_callv3, e_inv3, e_invv3, e_call4, e_callv4, e_inv4, e_invv4, e_call5, e_callv5, e_inv5, e_invv5, e_call6, e_callv6, e_inv6, e_invv6, e_call7, e_callv7, e_inv7, e_invv7, e_call8, e_callv8, e_inv8, e_invv8, e_ret, e_retz, e_retc, e_retb, e_retv, e_skip, e_sco, e_tlen, e_tat, e_iz_eq0, e_iz_eq1, e_iz_ne0, e_iz_ne1, add0, sc_d, sc_t, inI_e, inL_e, up_eq, true_or, or_true, or_false, false_or, and_true, true_and, not_false_eq_true, Int.reduceAdd, Int.reduceSub, Int.reduceMul, Int.reduceNeg, x2]
      | with_reducible first | refine izl_lt (fun hc => ?_) (fun hc => ?_) | refine izl_ge (fun hc => ?_) (fun hc => ?_) | refine izl_eq (fun hc => ?_) (fun hc => ?_) | refine ic_ge (fun hc => ?_) (fun hc => ?_) | refine ic_lt (fun hc => ?_) (fun hc => ?_) | refine ic_ne (fun hc => ?_) (fun hc => ?_) | refine ic_eq (fun hc => ?_) (fun hc => ?_) | refine ic_le (fun hc => ?_) (fun hc => ?_) | refine ic_gt (fun hc => ?_) (fun hc => ?_) | refine iz_eq (fun hc => ?_) (fun hc => ?_) | refine iz_ne (fun hc => ?_) (fun hc => ?_) | refine iz_lt (fun hc => ?_) (fun hc => ?_) | refine iz_ge (fun hc => ?_) (fun hc => ?_) | refine iz_gt (fun hc => ?_) (fun hc => ?_) | refine iz_le (fun hc => ?_) (fun hc => ?_) | refine iz_nu (fun hc => ?_) (fun hc => ?_) | refine iz_nn (fun hc => ?_) (fun hc => ?_)
      | omega
      | (exfalso; omega)
    unfold L_X2_serveGates_96
    refine lpw (fun n l st h c s => ∃ (i : Int) (E2 : Int → Int → Int), l = [d, i, z] ∧ st = [] ∧ h = (L, R, F, E2, N) ∧ 0 ≤ i ∧ i ≤ C 0 1 0 ∧ (n : Int) = C 0 1 0 - i ∧ frI d (d + 17) E E2 ∧ dyX d C (itD (opD C) D i.toNat) F E2 ∧ (∀ g : Int, i ≤ g → g < 11 → E2 (d + 16) g = fmF C (itD (opD C) D i.toNat) g (D 10 1).toNat)) ?_ (n := (C 0 1 0).toNat) ⟨0, E', rfl, rfl, rfl, by omega, by omega, by omega, hfi, hX', fun g u v => hfm g u v⟩
    rintro n2 k2 hk2 lo st h c2 s2 ⟨i2, E2, rfl, rfl, rfl, j0, j1, jn, jf, jX, jm⟩
    obtain ⟨o1, o2, o3, o4⟩ := it_op hW hw hK i2.toNat (by omega)
    have hS2 := hS.fi (frI.rf (F := F)) jf
    have cm1 := cm_1 (ds_cm hS2)
    by_cases hlt2 : i2 < C 0 1 0
    · have eit := itD_s (f := opD C) (D := D) j0
      have f16 := jm i2 (by omega) (by omega)
      have hgv := jX.2.2.2.2.1 i2 j0 (by omega)
      have bs := bz_spec C (itD (opD C) D i2.toNat) i2 (D 10 1).toNat
      have fs := fm_spec C (itD (opD C) D i2.toNat) i2 (D 10 1).toNat
      have eop : opD C (itD (opD C) D i2.toNat) i2 = if bzF C (itD (opD C) D i2.toNat) i2 (itD (opD C) D i2.toNat 10 1).toNat ≠ -2 ∨ fmF C (itD (opD C) D i2.toNat) i2 (itD (opD C) D i2.toNat 10 1).toNat = -1 then itD (opD C) D i2.toNat else up (up (up (up (itD (opD C) D i2.toNat) 3 (fmF C (itD (opD C) D i2.toNat) i2 (itD (opD C) D i2.toNat 10 1).toNat) 4) 4 (fmF C (itD (opD C) D i2.toNat) i2 (itD (opD C) D i2.toNat 10 1).toNat) (hrsP C (thO C (itD (opD C) D i2.toNat 0 (fmF C (itD (opD C) D i2.toNat) i2 (itD (opD C) D i2.toNat 10 1).toNat))) i2)) 11 i2 (itD (opD C) D i2.toNat 11 i2 + C 2 i2 5)) 12 i2 (itD (opD C) D i2.toNat 12 i2 + hrsP C (thO C (itD (opD C) D i2.toNat 0 (fmF C (itD (opD C) D i2.toNat) i2 (itD (opD C) D i2.toNat 10 1).toNat))) i2 * C 2 i2 4) := rfl
      rw [o3] at eop
      have nextm : ∀ E3 : Int → Int → Int, (∀ j : Int, E3 (d + 16) j = E2 (d + 16) j) → ∀ g : Int, i2 + 1 ≤ g → g < 11 → E3 (d + 16) g = fmF C (itD (opD C) D (i2 + 1).toNat) g (D 10 1).toNat := fun E3 he g u v => by
        rw [he, eit, fmF_op (by omega)]
        exact jm g (by omega) v
      generalize hDi : itD (opD C) D i2.toNat = Di at *
      have skip : opD C Di i2 = Di → k2 [d, i2 + 1, z] [] (L, R, F, E2, N) c2 s2 := fun he => hk2 (n2 - 1) _ _ _ _ _ (by omega) ⟨i2 + 1, E2, rfl, rfl, rfl, by omega, by omega, by omega, jf, by rw [eit, he]; exact jX, nextm E2 fun _ => rfl⟩
      have hbz2 : bzF C Di i2 (D 10 1).toNat = -2 ↔ E2 (d + 13) i2 = -2 := by
        unfold bzV at hgv
        rw [o3] at hgv
        constructor
        · intro w
          rcases hgv with v | v
          · exact v.1
          · exact absurd ⟨v.2.2.1, v.2.2.2⟩ ((bs.resolve_right (by omega)).2 _ v.1 (by omega))
        · intro w
          rcases bs with v | v
          · exact v.1
          · have := hgv.resolve_right (by omega)
            exact absurd ⟨v.2.2.1, v.2.2.2⟩ (this.2 _ v.1 (by omega))
      by_cases hf1 : fmF C Di i2 (D 10 1).toNat = -1
      · rw [if_pos (Or.inr hf1)] at eop
        rw [hf1] at f16
        repeat' first
          | exact absurd hc (by decide)
          | simp (disch := omega) only [ub_X2_serveGates_139, ub_X2_serveGates_88, ub_X2_serveGates_81, ub_X2_serveGates_39, ue_X2_serveGates, t_X2_serveGates, zLg, zRf, zFq, zEl, zNz, zUf, zUe, zUr, zCe, zSn, gd_0, gd_1, gd_2, gd_3, gd_4, gd_5, gd_6, gd_7, gd_8, gd_9, gd_10, gd_11, gd_12, gd_13, gd_14, gd_15, gd_16, gd_17, gd_18, gd_19, se_0, se_1, se_2, se_3, se_4, se_5, se_6, se_7, se_8, se_9, se_10, se_11, se_12, se_13, se_14, se_15, se_16, se_17, se_18, se_19, e_const, e_load, e_store, e_iinc, e_dup, e_dup2, e_pop, e_iadd, e_isub, e_imul, e_ladd, e_lsub, e_lmul, e_iaddw, e_isubw, e_imulw, e_laddw, e_lsubw, e_lmulw, e_iand, e_ior, e_ishl, e_ishr, e_iushr, e_lcmp, e_imax, e_imin, e_idiv, e_irem, e_ldiv, e_lrem, e_i2l, e_i2b, e_l2i, e_i2c, e_getF, e_getR, e_putF, e_putR, e_putz, e_ald, e_aldR, e_ast, e_astb, e_astz, e_asta, e_len, e_acopy, e_new, e_newa, e_mna, e_this, e_room, e_call0, e_callv0, e_call1, e_callv1, e_inv1, e_invv1, e_call2, e_callv2, e_inv2, e_invv2, e_call3, e_callv3, e_inv3, e_invv3, e_call4, e_callv4, e_inv4, e_invv4, e_call5, e_callv5, e_inv5, e_invv5, e_call6, e_callv6, e_inv6, e_invv6, e_call7, e_callv7, e_inv7, e_invv7, e_call8, e_callv8, e_inv8, e_invv8, e_ret, e_retz, e_retc, e_retb, e_retv, e_skip, e_sco, e_tlen, e_tat, e_iz_eq0, e_iz_eq1, e_iz_ne0, e_iz_ne1, add0, sc_d, sc_t, inI_e, inL_e, up_eq, true_or, or_true, or_false, false_or, and_true, true_and, not_false_eq_true, Int.reduceAdd, Int.reduceSub, Int.reduceMul, Int.reduceNeg, ds_8 hS, cm1, f16, dt_7 hT, l16]
          | with_reducible first | refine izl_lt (fun hc => ?_) (fun hc => ?_) | refine izl_ge (fun hc => ?_) (fun hc => ?_) | refine izl_eq (fun hc => ?_) (fun hc => ?_) | refine ic_ge (fun hc => ?_) (fun hc => ?_) | refine ic_lt (fun hc => ?_) (fun hc => ?_) | refine ic_ne (fun hc => ?_) (fun hc => ?_) | refine ic_eq (fun hc => ?_) (fun hc => ?_) | refine ic_le (fun hc => ?_) (fun hc => ?_) | refine ic_gt (fun hc => ?_) (fun hc => ?_) | refine iz_eq (fun hc => ?_) (fun hc => ?_) | refine iz_ne (fun hc => ?_) (fun hc => ?_) | refine iz_lt (fun hc => ?_) (fun hc => ?_) | refine iz_ge (fun hc => ?_) (fun hc => ?_) | refine iz_gt (fun hc => ?_) (fun hc => ?_) | refine iz_le (fun hc => ?_) (fun hc => ?_) | refine iz_nu (fun hc => ?_) (fun hc => ?_) | refine iz_nn (fun hc => ?_) (fun hc => ?_)
          | omega
          | (exfalso; omega)
        exact skip eop
      · by_cases hb : E2 (d + 13) i2 = -2
        · have hb' := hbz2.mpr hb
          rw [if_neg (fun w => w.elim (fun w => w hb') hf1)] at eop
          have fs := fs.resolve_left (fun w => hf1 w.1)
          have bs := bs.resolve_right (by omega)
          repeat' first
            | exact absurd hc (by decide)
            | simp (disch := omega) only [ub_X2_serveGates_139, ub_X2_serveGates_88, ub_X2_serveGates_81, ub_X2_serveGates_39, ue_X2_serveGates, t_X2_serveGates, zLg, zRf, zFq, zEl, zNz, zUf, zUe, zUr, zCe, zSn, gd_0, gd_1, gd_2, gd_3, gd_4, gd_5, gd_6, gd_7, gd_8, gd_9, gd_10, gd_11, gd_12, gd_13, gd_14, gd_15, gd_16, gd_17, gd_18, gd_19, se_0, se_1, se_2, se_3, se_4, se_5, se_6, se_7, se_8, se_9, se_10, se_11, se_12, se_13, se_14, se_15, se_16, se_17, se_18, se_19, e_const, e_load, e_store, e_iinc, e_dup, e_dup2, e_pop, e_iadd, e_isub, e_imul, e_ladd, e_lsub, e_lmul, e_iaddw, e_isubw, e_imulw, e_laddw, e_lsubw, e_lmulw, e_iand, e_ior, e_ishl, e_ishr, e_iushr, e_lcmp, e_imax, e_imin, e_idiv, e_irem, e_ldiv, e_lrem, e_i2l, e_i2b, e_l2i, e_i2c, e_getF, e_getR, e_putF, e_putR, e_putz, e_ald, e_aldR, e_ast, e_astb, e_astz, e_asta, e_len, e_acopy, e_new, e_newa, e_mna, e_this, e_room, e_call0, e_callv0, e_call1, e_callv1, e_inv1, e_invv1, e_call2, e_callv2, e_inv2, e_invv2, e_call3, e_callv3, e_inv3, e_invv3, e_call4, e_callv4, e_inv4, e_invv4, e_call5, e_callv5, e_inv5, e_invv5, e_call6, e_callv6, e_inv6, e_invv6, e_call7, e_callv7, e_inv7, e_invv7, e_call8, e_callv8, e_inv8, e_invv8, e_ret, e_retz, e_retc, e_retb, e_retv, e_skip, e_sco, e_tlen, e_tat, e_iz_eq0, e_iz_eq1, e_iz_ne0, e_iz_ne1, add0, sc_d, sc_t, inI_e, inL_e, up_eq, true_or, or_true, or_false, false_or, and_true, true_and, not_false_eq_true, Int.reduceAdd, Int.reduceSub, Int.reduceMul, Int.reduceNeg, ds_8 hS, cm1, f16, hb, dt_4 hT, dt_l13 hT, dt_7 hT, l16]
            | with_reducible first | refine izl_lt (fun hc => ?_) (fun hc => ?_) | refine izl_ge (fun hc => ?_) (fun hc => ?_) | refine izl_eq (fun hc => ?_) (fun hc => ?_) | refine ic_ge (fun hc => ?_) (fun hc => ?_) | refine ic_lt (fun hc => ?_) (fun hc => ?_) | refine ic_ne (fun hc => ?_) (fun hc => ?_) | refine ic_eq (fun hc => ?_) (fun hc => ?_) | refine ic_le (fun hc => ?_) (fun hc => ?_) | refine ic_gt (fun hc => ?_) (fun hc => ?_) | refine iz_eq (fun hc => ?_) (fun hc => ?_) | refine iz_ne (fun hc => ?_) (fun hc => ?_) | refine iz_lt (fun hc => ?_) (fun hc => ?_) | refine iz_ge (fun hc => ?_) (fun hc => ?_) | refine iz_gt (fun hc => ?_) (fun hc => ?_) | refine iz_le (fun hc => ?_) (fun hc => ?_) | refine iz_nu (fun hc => ?_) (fun hc => ?_) | refine iz_nn (fun hc => ?_) (fun hc => ?_)
            | omega
            | (exfalso; omega)
          refine sX_loadOver hS2 jX o1 o2 (by omega) fs.1 (by rw [o3]; omega) j0 hlt2 fs.2.2.1 fs.2.2.2 (fun l' u v => bs.2 l' u (by rw [o3] at v; omega)) fun E3 q1 q2 => ?_
          repeat' first
            | exact absurd hc (by decide)
            | simp (disch := omega) only [ub_X2_serveGates_139, ub_X2_serveGates_88, ub_X2_serveGates_81, ub_X2_serveGates_39, ue_X2_serveGates, t_X2_serveGates, zLg, zRf, zFq, zEl, zNz, zUf, zUe, zUr, zCe, zSn, gd_0, gd_1, gd_2, gd_3, gd_4, gd_5, gd_6, gd_7, gd_8, gd_9, gd_10, gd_11, gd_12, gd_13, gd_14, gd_15, gd_16, gd_17, gd_18, gd_19, se_0, se_1, se_2, se_3, se_4, se_5, se_6, se_7, se_8, se_9, se_10, se_11, se_12, se_13, se_14, se_15, se_16, se_17, se_18, se_19, e_const, e_load, e_store, e_iinc, e_dup, e_dup2, e_pop, e_iadd, e_isub, e_imul, e_ladd, e_lsub, e_lmul, e_iaddw, e_isubw, e_imulw, e_laddw, e_lsubw, e_lmulw, e_iand, e_ior, e_ishl, e_ishr, e_iushr, e_lcmp, e_imax, e_imin, e_idiv, e_irem, e_ldiv, e_lrem, e_i2l, e_i2b, e_l2i, e_i2c, e_getF, e_getR, e_putF, e_putR, e_putz, e_ald, e_aldR, e_ast, e_astb, e_astz, e_asta, e_len, e_acopy, e_new, e_newa, e_mna, e_this, e_room, e_call0, e_callv0, e_call1, e_callv1, e_inv1, e_invv1, e_call2, e_callv2, e_inv2, e_invv2, e_call3, e_callv3, e_inv3, e_invv3, e_call4, e_callv4, e_inv4, e_invv4, e_call5, e_callv5, e_inv5, e_invv5, e_call6, e_callv6, e_inv6, e_invv6, e_call7, e_callv7, e_inv7, e_invv7, e_call8, e_callv8, e_inv8, e_invv8, e_ret, e_retz, e_retc, e_retb, e_retv, e_skip, e_sco, e_tlen, e_tat, e_iz_eq0, e_iz_eq1, e_iz_ne0, e_iz_ne1, add0, sc_d, sc_t, inI_e, inL_e, up_eq, true_or, or_true, or_false, false_or, and_true, true_and, not_false_eq_true, Int.reduceAdd, Int.reduceSub, Int.reduceMul, Int.reduceNeg]
            | with_reducible first | refine izl_lt (fun hc => ?_) (fun hc => ?_) | refine izl_ge (fun hc => ?_) (fun hc => ?_) | refine izl_eq (fun hc => ?_) (fun hc => ?_) | refine ic_ge (fun hc => ?_) (fun hc => ?_) | refine ic_lt (fun hc => ?_) (fun hc => ?_) | refine ic_ne (fun hc => ?_) (fun hc => ?_) | refine ic_eq (fun hc => ?_) (fun hc => ?_) | refine ic_le (fun hc => ?_) (fun hc => ?_) | refine ic_gt (fun hc => ?_) (fun hc => ?_) | refine iz_eq (fun hc => ?_) (fun hc => ?_) | refine iz_ne (fun hc => ?_) (fun hc => ?_) | refine iz_lt (fun hc => ?_) (fun hc => ?_) | refine iz_ge (fun hc => ?_) (fun hc => ?_) | refine iz_gt (fun hc => ?_) (fun hc => ?_) | refine iz_le (fun hc => ?_) (fun hc => ?_) | refine iz_nu (fun hc => ?_) (fun hc => ?_) | refine iz_nn (fun hc => ?_) (fun hc => ?_)
            | omega
            | (exfalso; omega)
          exact hk2 (n2 - 1) _ _ _ _ _ (by omega) ⟨i2 + 1, E3, rfl, rfl, rfl, by omega, by omega, by omega, jf.tr (q2.mono (by omega) (by omega)), by rw [eit, eop]; exact q1, nextm E3 fun j => q2 _ _ (by omega)⟩
        · rw [if_pos (Or.inl (fun w => hb (hbz2.mp w)))] at eop
          repeat' first
            | exact absurd hc (by decide)
            | simp (disch := omega) only [ub_X2_serveGates_139, ub_X2_serveGates_88, ub_X2_serveGates_81, ub_X2_serveGates_39, ue_X2_serveGates, t_X2_serveGates, zLg, zRf, zFq, zEl, zNz, zUf, zUe, zUr, zCe, zSn, gd_0, gd_1, gd_2, gd_3, gd_4, gd_5, gd_6, gd_7, gd_8, gd_9, gd_10, gd_11, gd_12, gd_13, gd_14, gd_15, gd_16, gd_17, gd_18, gd_19, se_0, se_1, se_2, se_3, se_4, se_5, se_6, se_7, se_8, se_9, se_10, se_11, se_12, se_13, se_14, se_15, se_16, se_17, se_18, se_19, e_const, e_load, e_store, e_iinc, e_dup, e_dup2, e_pop, e_iadd, e_isub, e_imul, e_ladd, e_lsub, e_lmul, e_iaddw, e_isubw, e_imulw, e_laddw, e_lsubw, e_lmulw, e_iand, e_ior, e_ishl, e_ishr, e_iushr, e_lcmp, e_imax, e_imin, e_idiv, e_irem, e_ldiv, e_lrem, e_i2l, e_i2b, e_l2i, e_i2c, e_getF, e_getR, e_putF, e_putR, e_putz, e_ald, e_aldR, e_ast, e_astb, e_astz, e_asta, e_len, e_acopy, e_new, e_newa, e_mna, e_this, e_room, e_call0, e_callv0, e_call1, e_callv1, e_inv1, e_invv1, e_call2, e_callv2, e_inv2, e_invv2, e_call3, e_callv3, e_inv3, e_invv3, e_call4, e_callv4, e_inv4, e_invv4, e_call5, e_callv5, e_inv5, e_invv5, e_call6, e_callv6, e_inv6, e_invv6, e_call7, e_callv7, e_inv7, e_invv7, e_call8, e_callv8, e_inv8, e_invv8, e_ret, e_retz, e_retc, e_retb, e_retv, e_skip, e_sco, e_tlen, e_tat, e_iz_eq0, e_iz_eq1, e_iz_ne0, e_iz_ne1, add0, sc_d, sc_t, inI_e, inL_e, up_eq, true_or, or_true, or_false, false_or, and_true, true_and, not_false_eq_true, Int.reduceAdd, Int.reduceSub, Int.reduceMul, Int.reduceNeg, ds_8 hS, cm1, f16, dt_4 hT, dt_l13 hT, dt_7 hT, l16]
            | with_reducible first | refine izl_lt (fun hc => ?_) (fun hc => ?_) | refine izl_ge (fun hc => ?_) (fun hc => ?_) | refine izl_eq (fun hc => ?_) (fun hc => ?_) | refine ic_ge (fun hc => ?_) (fun hc => ?_) | refine ic_lt (fun hc => ?_) (fun hc => ?_) | refine ic_ne (fun hc => ?_) (fun hc => ?_) | refine ic_eq (fun hc => ?_) (fun hc => ?_) | refine ic_le (fun hc => ?_) (fun hc => ?_) | refine ic_gt (fun hc => ?_) (fun hc => ?_) | refine iz_eq (fun hc => ?_) (fun hc => ?_) | refine iz_ne (fun hc => ?_) (fun hc => ?_) | refine iz_lt (fun hc => ?_) (fun hc => ?_) | refine iz_ge (fun hc => ?_) (fun hc => ?_) | refine iz_gt (fun hc => ?_) (fun hc => ?_) | refine iz_le (fun hc => ?_) (fun hc => ?_) | refine iz_nu (fun hc => ?_) (fun hc => ?_) | refine iz_nn (fun hc => ?_) (fun hc => ?_)
            | omega
            | (exfalso; omega)
          exact skip eop
    · have he2 : i2 = C 0 1 0 := by omega
      rw [he2] at jX
      repeat' first
        | exact absurd hc (by decide)
        | simp (disch := omega) only [ub_X2_serveGates_139, ub_X2_serveGates_88, ub_X2_serveGates_81, ub_X2_serveGates_39, ue_X2_serveGates, t_X2_serveGates, zLg, zRf, zFq, zEl, zNz, zUf, zUe, zUr, zCe, zSn, gd_0, gd_1, gd_2, gd_3, gd_4, gd_5, gd_6, gd_7, gd_8, gd_9, gd_10, gd_11, gd_12, gd_13, gd_14, gd_15, gd_16, gd_17, gd_18, gd_19, se_0, se_1, se_2, se_3, se_4, se_5, se_6, se_7, se_8, se_9, se_10, se_11, se_12, se_13, se_14, se_15, se_16, se_17, se_18, se_19, e_const, e_load, e_store, e_iinc, e_dup, e_dup2, e_pop, e_iadd, e_isub, e_imul, e_ladd, e_lsub, e_lmul, e_iaddw, e_isubw, e_imulw, e_laddw, e_lsubw, e_lmulw, e_iand, e_ior, e_ishl, e_ishr, e_iushr, e_lcmp, e_imax, e_imin, e_idiv, e_irem, e_ldiv, e_lrem, e_i2l, e_i2b, e_l2i, e_i2c, e_getF, e_getR, e_putF, e_putR, e_putz, e_ald, e_aldR, e_ast, e_astb, e_astz, e_asta, e_len, e_acopy, e_new, e_newa, e_mna, e_this, e_room, e_call0, e_callv0, e_call1, e_callv1, e_inv1, e_invv1, e_call2, e_callv2, e_inv2, e_invv2, e_call3, e_callv3, e_inv3, e_invv3, e_call4, e_callv4, e_inv4, e_invv4, e_call5, e_callv5, e_inv5, e_invv5, e_call6, e_callv6, e_inv6, e_invv6, e_call7, e_callv7, e_inv7, e_invv7, e_call8, e_callv8, e_inv8, e_invv8, e_ret, e_retz, e_retc, e_retb, e_retv, e_skip, e_sco, e_tlen, e_tat, e_iz_eq0, e_iz_eq1, e_iz_ne0, e_iz_ne1, add0, sc_d, sc_t, inI_e, inL_e, up_eq, true_or, or_true, or_false, false_or, and_true, true_and, not_false_eq_true, Int.reduceAdd, Int.reduceSub, Int.reduceMul, Int.reduceNeg, ds_8 hS, cm1]
        | with_reducible first | refine izl_lt (fun hc => ?_) (fun hc => ?_) | refine izl_ge (fun hc => ?_) (fun hc => ?_) | refine izl_eq (fun hc => ?_) (fun hc => ?_) | refine ic_ge (fun hc => ?_) (fun hc => ?_) | refine ic_lt (fun hc => ?_) (fun hc => ?_) | refine ic_ne (fun hc => ?_) (fun hc => ?_) | refine ic_eq (fun hc => ?_) (fun hc => ?_) | refine ic_le (fun hc => ?_) (fun hc => ?_) | refine ic_gt (fun hc => ?_) (fun hc => ?_) | refine iz_eq (fun hc => ?_) (fun hc => ?_) | refine iz_ne (fun hc => ?_) (fun hc => ?_) | refine iz_lt (fun hc => ?_) (fun hc => ?_) | refine iz_ge (fun hc => ?_) (fun hc => ?_) | refine iz_gt (fun hc => ?_) (fun hc => ?_) | refine iz_le (fun hc => ?_) (fun hc => ?_) | refine iz_nu (fun hc => ?_) (fun hc => ?_) | refine iz_nn (fun hc => ?_) (fun hc => ?_)
        | omega
        | (exfalso; omega)
      exact hQ E2 jX jf
theorem sX_takeCart (hS : dyS d a y C L R F E) (hX : dyX d C D F E) (hw : dWf C D) (h0 : 0 ≤ l) (h1 : l < D 10 1) {far : Int} (h6 : D 6 l = -2) (h34 : D 3 l ≠ 4)
    (hQ : ∀ E' : Int → Int → Int, dyX d C (if ctF C D l (C 0 2 0).toNat = -1 then D else up (up (up D 6 l (ctF C D l (C 0 2 0).toNat)) 3 l 2) 4 l far) F E' → frI d (d + 17) E E' → Q 0 (L, R, F, E', N)) : T_X2_takeCart [d, l, far] (L, R, F, E, N) Q := by
  have hT := ds_t hS
  have hT2 := ds_ct hS
  have hM := ds_cm hS
  have hW := ds_cw hS
  have pd := dt_p hT
  have pa := ct_p hT2
  have b2 := cw_2 hW
  have hn := hw.2.1
  have hl := hw.2.2.1 l h0 h1
  have hX0 := hX
  obtain ⟨x1, x2, hR, hcr, hg, ht⟩ := hX
  have r1 := hR 1 l (by omega) (by omega) h0 h1
  repeat' first
    | exact absurd hc (by decide)
    | with_reducible refine sX_thingOf hS hR hl.v ?_ h0 h1 (fun t q1 q2 => ?_)
    | simp (disch := omega) only [ub_X2_takeCart_92, ue_X2_takeCart, t_X2_takeCart, zLg, zRf, zFq, zEl, zNz, zUf, zUe, zUr, zCe, zSn, gd_0, gd_1, gd_2, gd_3, gd_4, gd_5, gd_6, gd_7, gd_8, gd_9, gd_10, gd_11, gd_12, gd_13, gd_14, gd_15, gd_16, gd_17, gd_18, gd_19, se_0, se_1, se_2, se_3, se_4, se_5, se_6, se_7, se_8, se_9, se_10, se_11, se_12, se_13, se_14, se_15, se_16, se_17, se_18, se_19, e_const, e_load, e_store, e_iinc, e_dup, e_dup2, e_pop, e_iadd, e_isub, e_imul, e_ladd, e_lsub, e_lmul, e_iaddw, e_isubw, e_imulw, e_laddw, e_lsubw, e_lmulw, e_iand, e_ior, e_ishl, e_ishr, e_iushr, e_lcmp, e_imax, e_imin, e_idiv, e_irem, e_ldiv, e_lrem, e_i2l, e_i2b, e_l2i, e_i2c, e_getF, e_getR, e_putF, e_putR, e_putz, e_ald, e_aldR, e_ast, e_astb, e_astz, e_asta, e_len, e_acopy, e_new, e_newa, e_mna, e_this, e_room, e_call0, e_callv0, e_call1, e_callv1, e_inv1, e_invv1, e_call2, e_callv2, e_inv2, e_invv2, e_call3, e_callv3, e_inv3, e_invv3, e_call4, e_callv4, e_inv4, e_invv4, e_call5, e_callv5, e_inv5, e_invv5, e_call6, e_callv6, e_inv6, e_invv6, e_call7, e_callv7, e_inv7, e_invv7, e_call8, e_callv8, e_inv8, e_invv8, e_ret, e_retz, e_retc, e_retb, e_retv, e_skip, e_sco, e_tlen, e_tat, e_iz_eq0, e_iz_eq1, e_iz_ne0, e_iz_ne1, add0, sc_d, sc_t, inI_e, inL_e, up_eq, true_or, or_true, or_false, false_or, and_true, true_and, not_false_eq_true, Int.reduceAdd, Int.reduceSub, Int.reduceMul, Int.reduceNeg]
    | with_reducible first | refine izl_lt (fun hc => ?_) (fun hc => ?_) | refine izl_ge (fun hc => ?_) (fun hc => ?_) | refine izl_eq (fun hc => ?_) (fun hc => ?_) | refine ic_ge (fun hc => ?_) (fun hc => ?_) | refine ic_lt (fun hc => ?_) (fun hc => ?_) | refine ic_ne (fun hc => ?_) (fun hc => ?_) | refine ic_eq (fun hc => ?_) (fun hc => ?_) | refine ic_le (fun hc => ?_) (fun hc => ?_) | refine ic_gt (fun hc => ?_) (fun hc => ?_) | refine iz_eq (fun hc => ?_) (fun hc => ?_) | refine iz_ne (fun hc => ?_) (fun hc => ?_) | refine iz_lt (fun hc => ?_) (fun hc => ?_) | refine iz_ge (fun hc => ?_) (fun hc => ?_) | refine iz_gt (fun hc => ?_) (fun hc => ?_) | refine iz_le (fun hc => ?_) (fun hc => ?_) | refine iz_nu (fun hc => ?_) (fun hc => ?_) | refine iz_nn (fun hc => ?_) (fun hc => ?_)
    | omega
    | (exfalso; omega)
  have pt9 := tt_p q1
  unfold L_X2_takeCart_9
  refine lpw (fun n lo st h c s => ∃ i : Int, lo = [d, l, far, t, i] ∧ st = [] ∧ h = (L, R, F, E, N) ∧ 0 ≤ i ∧ i ≤ C 0 2 0 ∧ (n : Int) = C 0 2 0 - i ∧ ctF C D l i.toNat = -1) ?_ (n := (C 0 2 0).toNat) ⟨0, rfl, rfl, rfl, by omega, by omega, by omega, rfl⟩
  rintro n k hk lo st h c s ⟨i, rfl, rfl, rfl, hi, hi2, hn1, hct⟩
  by_cases hlt : i < C 0 2 0
  · have hov := hcr i hi (by omega)
    have os := on_spec D i (D 10 1).toNat
    have hon : onF D i (D 10 1).toNat = -2 ↔ E (d + 12) i = -2 := by
      unfold onV at hov
      constructor
      · intro w
        rcases hov with v | v
        · exact v.1
        · exact absurd v.2.2 ((os.resolve_right (by omega)).2 _ v.1 (by omega))
      · intro w
        rcases os with v | v
        · exact v.1
        · have := hov.resolve_right (by omega)
          exact absurd v.2.2 (this.2 _ v.1 (by omega))
    have ect : ctF C D l (i + 1).toNat = if onF D i (D 10 1).toNat = -2 ∧ C 3 i 0 = D 1 l ∧ thO C (D 0 l) 3 ≤ C 3 i 1 then i else -1 := by
      have e : (i + 1).toNat = i.toNat + 1 := by omega
      rw [e]
      show (if ctF C D l i.toNat ≠ -1 then ctF C D l i.toNat else if onF D (i.toNat : Int) (D 10 1).toNat = -2 ∧ C 3 (i.toNat : Int) 0 = D 1 l ∧ thO C (D 0 l) 3 ≤ C 3 (i.toNat : Int) 1 then (i.toNat : Int) else -1) = _
      rw [if_neg (by omega), Int.toNat_of_nonneg hi]
    have skip : ¬ (onF D i (D 10 1).toNat = -2 ∧ C 3 i 0 = D 1 l ∧ thO C (D 0 l) 3 ≤ C 3 i 1) → k [d, l, far, t, i + 1] [] (L, R, F, E, N) c s := fun z => hk (n - 1) _ _ _ _ _ (by omega) ⟨i + 1, rfl, rfl, rfl, by omega, by omega, by omega, by rw [ect, if_neg z]⟩
    by_cases he : E (d + 12) i = -2
    · repeat' first
        | exact absurd hc (by decide)
        | with_reducible refine sX_cartBears hT2 hM hW q1 q2 ?_ ?_ (fun e1 e2 => ?_) (fun e3 => ?_)
        | simp (disch := omega) only [ub_X2_takeCart_92, ue_X2_takeCart, t_X2_takeCart, zLg, zRf, zFq, zEl, zNz, zUf, zUe, zUr, zCe, zSn, gd_0, gd_1, gd_2, gd_3, gd_4, gd_5, gd_6, gd_7, gd_8, gd_9, gd_10, gd_11, gd_12, gd_13, gd_14, gd_15, gd_16, gd_17, gd_18, gd_19, se_0, se_1, se_2, se_3, se_4, se_5, se_6, se_7, se_8, se_9, se_10, se_11, se_12, se_13, se_14, se_15, se_16, se_17, se_18, se_19, e_const, e_load, e_store, e_iinc, e_dup, e_dup2, e_pop, e_iadd, e_isub, e_imul, e_ladd, e_lsub, e_lmul, e_iaddw, e_isubw, e_imulw, e_laddw, e_lsubw, e_lmulw, e_iand, e_ior, e_ishl, e_ishr, e_iushr, e_lcmp, e_imax, e_imin, e_idiv, e_irem, e_ldiv, e_lrem, e_i2l, e_i2b, e_l2i, e_i2c, e_getF, e_getR, e_putF, e_putR, e_putz, e_ald, e_aldR, e_ast, e_astb, e_astz, e_asta, e_len, e_acopy, e_new, e_newa, e_mna, e_this, e_room, e_call0, e_callv0, e_call1, e_callv1, e_inv1, e_invv1, e_call2, e_callv2, e_inv2, e_invv2, e_call3, e_callv3, e_inv3, e_invv3, e_call4, e_callv4, e_inv4, e_invv4, e_call5, e_callv5, e_inv5, e_invv5, e_call6, e_callv6, e_inv6, e_invv6, e_call7, e_callv7, e_inv7, e_invv7, e_call8, e_callv8, e_inv8, e_invv8, e_ret, e_retz, e_retc, e_retb, e_retv, e_skip, e_sco, e_tlen, e_tat, e_iz_eq0, e_iz_eq1, e_iz_ne0, e_iz_ne1, add0, sc_d, sc_t, inI_e, inL_e, up_eq, true_or, or_true, or_false, false_or, and_true, true_and, not_false_eq_true, Int.reduceAdd, Int.reduceSub, Int.reduceMul, Int.reduceNeg, up_ne, r1, he, ds_8 hS, cm_2 hM, dt_2 hT, dt_3 hT, dt_l1 hT, dt_l12 hT, dt_r hT, dt_lr hT]
        | with_reducible first | refine izl_lt (fun hc => ?_) (fun hc => ?_) | refine izl_ge (fun hc => ?_) (fun hc => ?_) | refine izl_eq (fun hc => ?_) (fun hc => ?_) | refine ic_ge (fun hc => ?_) (fun hc => ?_) | refine ic_lt (fun hc => ?_) (fun hc => ?_) | refine ic_ne (fun hc => ?_) (fun hc => ?_) | refine ic_eq (fun hc => ?_) (fun hc => ?_) | refine ic_le (fun hc => ?_) (fun hc => ?_) | refine ic_gt (fun hc => ?_) (fun hc => ?_) | refine iz_eq (fun hc => ?_) (fun hc => ?_) | refine iz_ne (fun hc => ?_) (fun hc => ?_) | refine iz_lt (fun hc => ?_) (fun hc => ?_) | refine iz_ge (fun hc => ?_) (fun hc => ?_) | refine iz_gt (fun hc => ?_) (fun hc => ?_) | refine iz_le (fun hc => ?_) (fun hc => ?_) | refine iz_nu (fun hc => ?_) (fun hc => ?_) | refine iz_nn (fun hc => ?_) (fun hc => ?_)
        | omega
        | (exfalso; omega)
      · have hgood : onF D i (D 10 1).toNat = -2 ∧ C 3 i 0 = D 1 l ∧ thO C (D 0 l) 3 ≤ C 3 i 1 := ⟨hon.mpr he, e1, e2⟩
        rw [if_pos hgood] at ect
        have efin : ∀ m : Nat, (i + 1).toNat ≤ m → ctF C D l m = i := by
          intro m
          induction m with
          | zero => intro w; omega
          | succ m ih =>
            intro w
            by_cases w2 : (i + 1).toNat = m + 1
            · rw [← w2]; exact ect
            · have := ih (by omega)
              unfold ctF
              rw [this, if_pos (by omega)]
        have eall := efin (C 0 2 0).toNat (by omega)
        rw [eall, if_neg (by omega)] at hQ
        have hov := (hcr i hi (by omega)).resolve_right (by omega)
        refine hQ _ ⟨by simp (disch := omega) only [up_ne]; exact x1, by simp (disch := omega) only [up_ne]; exact x2, dR_up (dR_up (dR_up (hR.fr fun b j x z => up_ne (by omega)) (by omega)) (by omega)) (by omega), fun q u v => ?_, fun q u v => ?_, fun q u v => ?_⟩ (fun b j z => by simp (disch := omega) only [up_ne])
        · have e10 : up (up (up D 6 l i) 3 l 2) 4 l far 10 1 = D 10 1 := by simp (disch := omega) only [up_ne]
          unfold onV
          rw [e10]
          by_cases z : q = i
          · subst z
            refine Or.inr ?_
            simp (disch := omega) only [up_ne, up_eq]
            exact ⟨h0, h1, trivial⟩
          · have hq := hcr q u v
            unfold onV at hq
            rcases hq with ⟨p1, p2⟩ | ⟨p1, p2, p3⟩
            · refine Or.inl ⟨by simp (disch := omega) only [up_ne]; exact p1, fun l' y1 y2 => ?_⟩
              by_cases zl : l' = l
              · subst zl
                simp (disch := omega) only [up_ne, up_eq]
                omega
              · simp (disch := omega) only [up_ne]
                exact p2 l' y1 y2
            · have zl : E (d + 12) q ≠ l := fun w => by rw [w] at p3; omega
              refine Or.inr ?_
              simp (disch := omega) only [up_ne]
              exact ⟨p1, p2, p3⟩
        · simp (disch := omega) only [up_ne]
          refine bzV_same (fun x y1 y2 => ?_) (by simp (disch := omega) only [up_ne]) (hg q u v)
          refine ⟨?_, fun _ => gah_eq (by simp (disch := omega) only [up_ne]) (by simp (disch := omega) only [up_ne])⟩
          by_cases zl : x = l
          · subst zl
            simp (disch := omega) only [up_ne, up_eq]
            omega
          · simp (disch := omega) only [up_ne]
        · simp (disch := omega) only [up_ne]
          exact ht q u v
      · exact skip fun z => e3 z.2
    · repeat' first
        | exact absurd hc (by decide)
        | simp (disch := omega) only [ub_X2_takeCart_92, ue_X2_takeCart, t_X2_takeCart, zLg, zRf, zFq, zEl, zNz, zUf, zUe, zUr, zCe, zSn, gd_0, gd_1, gd_2, gd_3, gd_4, gd_5, gd_6, gd_7, gd_8, gd_9, gd_10, gd_11, gd_12, gd_13, gd_14, gd_15, gd_16, gd_17, gd_18, gd_19, se_0, se_1, se_2, se_3, se_4, se_5, se_6, se_7, se_8, se_9, se_10, se_11, se_12, se_13, se_14, se_15, se_16, se_17, se_18, se_19, e_const, e_load, e_store, e_iinc, e_dup, e_dup2, e_pop, e_iadd, e_isub, e_imul, e_ladd, e_lsub, e_lmul, e_iaddw, e_isubw, e_imulw, e_laddw, e_lsubw, e_lmulw, e_iand, e_ior, e_ishl, e_ishr, e_iushr, e_lcmp, e_imax, e_imin, e_idiv, e_irem, e_ldiv, e_lrem, e_i2l, e_i2b, e_l2i, e_i2c, e_getF, e_getR, e_putF, e_putR, e_putz, e_ald, e_aldR, e_ast, e_astb, e_astz, e_asta, e_len, e_acopy, e_new, e_newa, e_mna, e_this, e_room, e_call0, e_callv0, e_call1, e_callv1, e_inv1, e_invv1, e_call2, e_callv2, e_inv2, e_invv2, e_call3, e_callv3, e_inv3, e_invv3, e_call4, e_callv4, e_inv4, e_invv4, e_call5, e_callv5, e_inv5, e_invv5, e_call6, e_callv6, e_inv6, e_invv6, e_call7, e_callv7, e_inv7, e_invv7, e_call8, e_callv8, e_inv8, e_invv8, e_ret, e_retz, e_retc, e_retb, e_retv, e_skip, e_sco, e_tlen, e_tat, e_iz_eq0, e_iz_eq1, e_iz_ne0, e_iz_ne1, add0, sc_d, sc_t, inI_e, inL_e, up_eq, true_or, or_true, or_false, false_or, and_true, true_and, not_false_eq_true, Int.reduceAdd, Int.reduceSub, Int.reduceMul, Int.reduceNeg, ds_8 hS, cm_2 hM, dt_2 hT, dt_3 hT, dt_l1 hT, dt_l12 hT, dt_r hT, dt_lr hT]
        | with_reducible first | refine izl_lt (fun hc => ?_) (fun hc => ?_) | refine izl_ge (fun hc => ?_) (fun hc => ?_) | refine izl_eq (fun hc => ?_) (fun hc => ?_) | refine ic_ge (fun hc => ?_) (fun hc => ?_) | refine ic_lt (fun hc => ?_) (fun hc => ?_) | refine ic_ne (fun hc => ?_) (fun hc => ?_) | refine ic_eq (fun hc => ?_) (fun hc => ?_) | refine ic_le (fun hc => ?_) (fun hc => ?_) | refine ic_gt (fun hc => ?_) (fun hc => ?_) | refine iz_eq (fun hc => ?_) (fun hc => ?_) | refine iz_ne (fun hc => ?_) (fun hc => ?_) | refine iz_lt (fun hc => ?_) (fun hc => ?_) | refine iz_ge (fun hc => ?_) (fun hc => ?_) | refine iz_gt (fun hc => ?_) (fun hc => ?_) | refine iz_le (fun hc => ?_) (fun hc => ?_) | refine iz_nu (fun hc => ?_) (fun hc => ?_) | refine iz_nn (fun hc => ?_) (fun hc => ?_)
        | omega
        | (exfalso; omega)
      exact skip fun z => he (hon.mp z.1)
  · have hie : i = C 0 2 0 := by omega
    rw [← hie, if_pos hct] at hQ
    repeat' first
      | exact absurd hc (by decide)
      | simp (disch := omega) only [ub_X2_takeCart_92, ue_X2_takeCart, t_X2_takeCart, zLg, zRf, zFq, zEl, zNz, zUf, zUe, zUr, zCe, zSn, gd_0, gd_1, gd_2, gd_3, gd_4, gd_5, gd_6, gd_7, gd_8, gd_9, gd_10, gd_11, gd_12, gd_13, gd_14, gd_15, gd_16, gd_17, gd_18, gd_19, se_0, se_1, se_2, se_3, se_4, se_5, se_6, se_7, se_8, se_9, se_10, se_11, se_12, se_13, se_14, se_15, se_16, se_17, se_18, se_19, e_const, e_load, e_store, e_iinc, e_dup, e_dup2, e_pop, e_iadd, e_isub, e_imul, e_ladd, e_lsub, e_lmul, e_iaddw, e_isubw, e_imulw, e_laddw, e_lsubw, e_lmulw, e_iand, e_ior, e_ishl, e_ishr, e_iushr, e_lcmp, e_imax, e_imin, e_idiv, e_irem, e_ldiv, e_lrem, e_i2l, e_i2b, e_l2i, e_i2c, e_getF, e_getR, e_putF, e_putR, e_putz, e_ald, e_aldR, e_ast, e_astb, e_astz, e_asta, e_len, e_acopy, e_new, e_newa, e_mna, e_this, e_room, e_call0, e_callv0, e_call1, e_callv1, e_inv1, e_invv1, e_call2, e_callv2, e_inv2, e_invv2, e_call3, e_callv3, e_inv3, e_invv3, e_call4, e_callv4, e_inv4, e_invv4, e_call5, e_callv5, e_inv5, e_invv5, e_call6, e_callv6, e_inv6, e_invv6, e_call7, e_callv7, e_inv7, e_invv7, e_call8, e_callv8, e_inv8, e_invv8, e_ret, e_retz, e_retc, e_retb, e_retv, e_skip, e_sco, e_tlen, e_tat, e_iz_eq0, e_iz_eq1, e_iz_ne0, e_iz_ne1, add0, sc_d, sc_t, inI_e, inL_e, up_eq, true_or, or_true, or_false, false_or, and_true, true_and, not_false_eq_true, Int.reduceAdd, Int.reduceSub, Int.reduceMul, Int.reduceNeg, ds_8 hS, cm_2 hM]
      | with_reducible first | refine izl_lt (fun hc => ?_) (fun hc => ?_) | refine izl_ge (fun hc => ?_) (fun hc => ?_) | refine izl_eq (fun hc => ?_) (fun hc => ?_) | refine ic_ge (fun hc => ?_) (fun hc => ?_) | refine ic_lt (fun hc => ?_) (fun hc => ?_) | refine ic_ne (fun hc => ?_) (fun hc => ?_) | refine ic_eq (fun hc => ?_) (fun hc => ?_) | refine ic_le (fun hc => ?_) (fun hc => ?_) | refine ic_gt (fun hc => ?_) (fun hc => ?_) | refine iz_eq (fun hc => ?_) (fun hc => ?_) | refine iz_ne (fun hc => ?_) (fun hc => ?_) | refine iz_lt (fun hc => ?_) (fun hc => ?_) | refine iz_ge (fun hc => ?_) (fun hc => ?_) | refine iz_gt (fun hc => ?_) (fun hc => ?_) | refine iz_le (fun hc => ?_) (fun hc => ?_) | refine iz_nu (fun hc => ?_) (fun hc => ?_) | refine iz_nn (fun hc => ?_) (fun hc => ?_)
      | omega
      | (exfalso; omega)
    exact hQ E hX0 frI.rf
end DAYX3

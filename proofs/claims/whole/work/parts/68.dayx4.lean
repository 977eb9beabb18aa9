/-! ===== the class's day: setting out, the hour whole ===== -/
section DAYX4
variable {L : Int → Int} {R F E : Int → Int → Int} {N : Nat} {Q : xQ} {d a y l g : Int} {C : Cy} {D : Int → Int → Int}
theorem dyX_ar (hX : dyX d C D F E) {E' : Int → Int → Int} (h0 : 0 ≤ l) (h1 : l < D 10 1) (h34 : D 3 l ≠ 4) (hR : dR d (arD C D l) E') (hf : frI (d + 2) (d + 12) E E') : dyX d C (arD C D l) F E' := by
  obtain ⟨x1, x2, -, hcr, hg, ht⟩ := hX
  have ho := arD_only (C := C) (D := D) (l := l)
  have r := arD_row (C := C) (D := D) (l := l)
  refine ⟨by rw [ho _ _ (by omega)]; exact x1, by rw [ho _ _ (by omega)]; exact x2, hR, fun c u v => ?_, fun q u v => ?_, fun q u v => ?_⟩
  · rw [hf _ _ (by omega)]
    refine onV_same (fun q _ _ => ?_) (ho _ _ (by omega)) (hcr c u v)
    by_cases z : q = l
    · subst z; exact r.2 6 (by omega) (by omega) (by omega)
    · exact ho _ _ (Or.inl z)
  · rw [hf _ _ (by omega)]
    refine bzV_same (fun x _ _ => ?_) (ho _ _ (by omega)) (hg q u v)
    by_cases z : x = l
    · subst z
      exact ⟨⟨fun w => by omega, fun w => absurd w h34⟩, fun w => absurd w h34⟩
    · rw [ho _ _ (Or.inl z)]
      exact ⟨Iff.rfl, fun _ => gah_eq (ho _ _ (Or.inl z)) (ho _ _ (Or.inl z))⟩
  · rw [hf _ _ (by omega), hf _ _ (by omega), ho _ _ (by omega), ho _ _ (by omega)]
    exact ht q u v
theorem sX_setOut (hS : dyS d a y C L R F E) (hX : dyX d C D F E) (hw : dWf C D) (h0 : 0 ≤ l) (h1 : l < D 10 1) (hQ : ∀ E' : Int → Int → Int, dyX d C (soD C D l) F E' → frI d (d + 17) E E' → Q 0 (L, R, F, E', N)) : T_X2_setOut [d, l] (L, R, F, E, N) Q := by
  have hT := ds_t hS
  have hT2 := ds_ct hS
  have hM := ds_cm hS
  have hW := ds_cw hS
  have pd := dt_p hT
  have pa := ct_p hT2
  have hn := hw.2.1
  have b4 := cw_4 hW
  have hl := hw.2.2.1 l h0 h1
  have r0 := hX.2.2.1 0 l (by omega) (by omega) h0 h1
  have r3 := hX.2.2.1 3 l (by omega) (by omega) h0 h1
  have x1 := hX.1
  have a0 := hl.1
  -- behind the beginning
  have go : ∀ (D1 E1 : Int → Int → Int) (x : Int), dyS d a y C L R F E1 → dyX d C D1 F E1 → dWf C D1 → D1 10 1 = D 10 1 → frI d (d + 17) E E1 → soD C D l = drD C D1 l → B_X2_setOut_45 Q [d, l, x] [] (L, R, F, E1, N) 0 0 := by
    intro D1 E1 x hS1 hX1 hw1 e10 hf1 eso
    have hl1 := hw1.2.2.1 l h0 (by omega)
    have hl1' := hl1
    obtain ⟨a0, af, a1, a2, a3, a4, a6, a8, a9⟩ := hl1'
    have r2 := hX1.2.2.1 2 l (by omega) (by omega) h0 (by omega)
    have r3 := hX1.2.2.1 3 l (by omega) (by omega) h0 (by omega)
    have pb := plah_b hW hl1
    have hR1 := hX1.2.2.1
    have hv1 := hl1.v
    have rz := rnd_z a2.1 a2.2 pb.1 pb.2
    have rb := rnd_b a2.1 a2.2 pb.1 pb.2
    by_cases h3 : D1 3 l = 1
    · have e1 : drD C D1 l = if D1 2 l = plah C D1 l then arD C D1 l else if ctF C D1 l (C 0 2 0).toNat = -1 then D1 else up (up (up D1 6 l (ctF C D1 l (C 0 2 0).toNat)) 3 l 2) 4 l (rnd (D1 2 l) (plah C D1 l)) := if_neg (fun w => w h3)
      repeat' first
        | exact absurd hc (by decide)
        | with_reducible refine sX_placeAhead hS1 hR1 hv1 ?_ h0 ?_ ?_
        | with_reducible refine sX_apart ?_ ?_ ?_ ?_ ?_
        | simp (disch := omega) only [ub_X2_setOut_93, ub_X2_setOut_45, ue_X2_setOut, t_X2_setOut, zLg, zRf, zFq, zEl, zNz, zUf, zUe, zUr, zCe, zSn, gd_0, gd_1, gd_2, gd_3, gd_4, gd_5, gd_6, gd_7, gd_8, gd_9, gd_10, gd_11, gd_12, gd_13, gd_14, gd_15, gd_16, gd_17, gd_18, gd_19, se_0, se_1, se_2, se_3, se_4, se_5, se_6, se_7, se_8, se_9, se_10, se_11, se_12, se_13, se_14, se_15, se_16, se_17, se_18, se_19, e_const, e_load, e_store, e_iinc, e_dup, e_dup2, e_pop, e_iadd, e_isub, e_imul, e_ladd, e_lsub, e_lmul, e_iaddw, e_isubw, e_imulw, e_laddw, e_lsubw, e_lmulw, e_iand, e_ior, e_ishl, e_ishr, e_iushr, e_lcmp, e_imax, e_imin, e_idiv, e_irem, e_ldiv, e_lrem, e_i2l, e_i2b, e_l2i, e_i2c, e_getF, e_getR, e_putF, e_putR, e_putz, e_ald, e_aldR, e_ast, e_astb, e_astz, e_asta, e_len, e_acopy, e_new, e_newa, e_mna, e_this, e_room, e_call0, e_callv0, e_call1, e_callv1, e_inv1, e_invv1, e_call2, e_callv2, e_inv2, e_invv2, e_call3, e_callv3, e_inv3, e_invv3, e_call4, e_callv4, e_inv4, e_invv4, e_call5, e_callv5, e_inv5, e_invv5, e_call6, e_callv6, e_inv6, e_invv6, e_call7, e_callv7, e_inv7, e_invv7, e_call8, e_callv8, e_inv8, e_invv8, e_ret, e_retz, e_retc, e_retb, e_retv, e_skip, e_sco, e_tlen, e_tat, e_iz_eq0, e_iz_eq1, e_iz_ne0, e_iz_ne1, add0, sc_d, sc_t, inI_e, inL_e, up_eq, true_or, or_true, or_false, false_or, and_true, true_and, not_false_eq_true, Int.reduceAdd, Int.reduceSub, Int.reduceMul, Int.reduceNeg, r2, r3, dt_2 hT, dt_l1 hT, dt_r hT, dt_lr hT]
        | with_reducible first | refine izl_lt (fun hc => ?_) (fun hc => ?_) | refine izl_ge (fun hc => ?_) (fun hc => ?_) | refine izl_eq (fun hc => ?_) (fun hc => ?_) | refine ic_ge (fun hc => ?_) (fun hc => ?_) | refine ic_lt (fun hc => ?_) (fun hc => ?_) | refine ic_ne (fun hc => ?_) (fun hc => ?_) | refine ic_eq (fun hc => ?_) (fun hc => ?_) | refine ic_le (fun hc => ?_) (fun hc => ?_) | refine ic_gt (fun hc => ?_) (fun hc => ?_) | refine iz_eq (fun hc => ?_) (fun hc => ?_) | refine iz_ne (fun hc => ?_) (fun hc => ?_) | refine iz_lt (fun hc => ?_) (fun hc => ?_) | refine iz_ge (fun hc => ?_) (fun hc => ?_) | refine iz_gt (fun hc => ?_) (fun hc => ?_) | refine iz_le (fun hc => ?_) (fun hc => ?_) | refine iz_nu (fun hc => ?_) (fun hc => ?_) | refine iz_nn (fun hc => ?_) (fun hc => ?_)
        | omega
        | (exfalso; omega)
      · rw [if_neg (by omega)] at e1
        refine sX_takeCart hS1 hX1 hw1 h0 (by omega) (by omega) (by omega) fun E' q1 q2 => ?_
        exact hQ E' (by rw [eso, e1]; exact q1) (hf1.tr q2)
      · rw [if_pos (by omega)] at e1
        refine sX_arrive hS1 hX1.2.2.1 hX1.1 hl1.v (by omega) h0 (by omega) fun E' q1 q2 => ?_
        exact hQ E' (by rw [eso, e1]; exact dyX_ar hX1 h0 (by omega) (by omega) q1 q2) (hf1.tr (q2.mono (by omega) (by omega)))
    · have e1 : drD C D1 l = D1 := if_pos h3
      repeat' first
        | exact absurd hc (by decide)
        | simp (disch := omega) only [ub_X2_setOut_93, ub_X2_setOut_45, ue_X2_setOut, t_X2_setOut, zLg, zRf, zFq, zEl, zNz, zUf, zUe, zUr, zCe, zSn, gd_0, gd_1, gd_2, gd_3, gd_4, gd_5, gd_6, gd_7, gd_8, gd_9, gd_10, gd_11, gd_12, gd_13, gd_14, gd_15, gd_16, gd_17, gd_18, gd_19, se_0, se_1, se_2, se_3, se_4, se_5, se_6, se_7, se_8, se_9, se_10, se_11, se_12, se_13, se_14, se_15, se_16, se_17, se_18, se_19, e_const, e_load, e_store, e_iinc, e_dup, e_dup2, e_pop, e_iadd, e_isub, e_imul, e_ladd, e_lsub, e_lmul, e_iaddw, e_isubw, e_imulw, e_laddw, e_lsubw, e_lmulw, e_iand, e_ior, e_ishl, e_ishr, e_iushr, e_lcmp, e_imax, e_imin, e_idiv, e_irem, e_ldiv, e_lrem, e_i2l, e_i2b, e_l2i, e_i2c, e_getF, e_getR, e_putF, e_putR, e_putz, e_ald, e_aldR, e_ast, e_astb, e_astz, e_asta, e_len, e_acopy, e_new, e_newa, e_mna, e_this, e_room, e_call0, e_callv0, e_call1, e_callv1, e_inv1, e_invv1, e_call2, e_callv2, e_inv2, e_invv2, e_call3, e_callv3, e_inv3, e_invv3, e_call4, e_callv4, e_inv4, e_invv4, e_call5, e_callv5, e_inv5, e_invv5, e_call6, e_callv6, e_inv6, e_invv6, e_call7, e_callv7, e_inv7, e_invv7, e_call8, e_callv8, e_inv8, e_invv8, e_ret, e_retz, e_retc, e_retb, e_retv, e_skip, e_sco, e_tlen, e_tat, e_iz_eq0, e_iz_eq1, e_iz_ne0, e_iz_ne1, add0, sc_d, sc_t, inI_e, inL_e, up_eq, true_or, or_true, or_false, false_or, and_true, true_and, not_false_eq_true, Int.reduceAdd, Int.reduceSub, Int.reduceMul, Int.reduceNeg, r3, dt_2 hT, dt_l1 hT, dt_r hT, dt_lr hT]
        | with_reducible first | refine izl_lt (fun hc => ?_) (fun hc => ?_) | refine izl_ge (fun hc => ?_) (fun hc => ?_) | refine izl_eq (fun hc => ?_) (fun hc => ?_) | refine ic_ge (fun hc => ?_) (fun hc => ?_) | refine ic_lt (fun hc => ?_) (fun hc => ?_) | refine ic_ne (fun hc => ?_) (fun hc => ?_) | refine ic_eq (fun hc => ?_) (fun hc => ?_) | refine ic_le (fun hc => ?_) (fun hc => ?_) | refine ic_gt (fun hc => ?_) (fun hc => ?_) | refine iz_eq (fun hc => ?_) (fun hc => ?_) | refine iz_ne (fun hc => ?_) (fun hc => ?_) | refine iz_lt (fun hc => ?_) (fun hc => ?_) | refine iz_ge (fun hc => ?_) (fun hc => ?_) | refine iz_gt (fun hc => ?_) (fun hc => ?_) | refine iz_le (fun hc => ?_) (fun hc => ?_) | refine iz_nu (fun hc => ?_) (fun hc => ?_) | refine iz_nn (fun hc => ?_) (fun hc => ?_)
        | omega
        | (exfalso; omega)
      exact hQ E1 (by rw [eso, e1]; exact hX1) hf1
  have eb : bgD C D l = if D 3 l = 0 ∧ C 5 (D 0 l) 5 = D 10 0 then up D 3 l 1 else D := rfl
  have es : soD C D l = drD C (bgD C D l) l := rfl
  obtain ⟨p1, p2⟩ := bgD_ok hw h0 h1
  by_cases hb : D 3 l = 0 ∧ C 5 (D 0 l) 5 = D 10 0
  · rw [if_pos hb] at eb
    rw [eb] at es p1
    have hX1 : dyX d C (up D 3 l 1) F (up E (d + 2 + 3) l 1) := by
      obtain ⟨x1, x2, hR, hcr, hg, ht⟩ := hX
      refine ⟨by rw [up_ne (by omega)]; exact x1, by rw [up_ne (by omega)]; exact x2, dR_up hR (by omega), fun c u v => ?_, fun q u v => ?_, fun q u v => ?_⟩
      · rw [up_ne (by omega)]
        exact onV_same (fun q _ _ => up_ne (by omega)) (up_ne (by omega)) (hcr c u v)
      · rw [up_ne (by omega)]
        refine bzV_same (fun x _ _ => ⟨?_, fun _ => gah_eq (up_ne (by omega)) (up_ne (by omega))⟩) (up_ne (by omega)) (hg q u v)
        by_cases z : x = l
        · subst z; rw [up_eq]; omega
        · rw [up_ne (by omega)]
      · simp (disch := omega) only [up_ne]
        exact ht q u v
    have hf1 : frI d (d + 17) E (up E (d + 2 + 3) l 1) := frI.up (by omega) (by omega)
    repeat' first
      | exact absurd hc (by decide)
      | simp (disch := omega) only [t_X2_setOut, ue_X2_setOut, zLg, zRf, zFq, zEl, zNz, zUf, zUe, zUr, zCe, zSn, gd_0, gd_1, gd_2, gd_3, gd_4, gd_5, gd_6, gd_7, gd_8, gd_9, gd_10, gd_11, gd_12, gd_13, gd_14, gd_15, gd_16, gd_17, gd_18, gd_19, se_0, se_1, se_2, se_3, se_4, se_5, se_6, se_7, se_8, se_9, se_10, se_11, se_12, se_13, se_14, se_15, se_16, se_17, se_18, se_19, e_const, e_load, e_store, e_iinc, e_dup, e_dup2, e_pop, e_iadd, e_isub, e_imul, e_ladd, e_lsub, e_lmul, e_iaddw, e_isubw, e_imulw, e_laddw, e_lsubw, e_lmulw, e_iand, e_ior, e_ishl, e_ishr, e_iushr, e_lcmp, e_imax, e_imin, e_idiv, e_irem, e_ldiv, e_lrem, e_i2l, e_i2b, e_l2i, e_i2c, e_getF, e_getR, e_putF, e_putR, e_putz, e_ald, e_aldR, e_ast, e_astb, e_astz, e_asta, e_len, e_acopy, e_new, e_newa, e_mna, e_this, e_room, e_call0, e_callv0, e_call1, e_callv1, e_inv1, e_invv1, e_call2, e_callv2, e_inv2, e_invv2, e_call3, e_callv3, e_inv3, e_invv3, e_call4, e_callv4, e_inv4, e_invv4, e_call5, e_callv5, e_inv5, e_invv5, e_call6, e_callv6, e_inv6, e_invv6, e_call7, e_callv7, e_inv7, e_invv7, e_call8, e_callv8, e_inv8, e_invv8, e_ret, e_retz, e_retc, e_retb, e_retv, e_skip, e_sco, e_tlen, e_tat, e_iz_eq0, e_iz_eq1, e_iz_ne0, e_iz_ne1, add0, sc_d, sc_t, inI_e, inL_e, up_eq, true_or, or_true, or_false, false_or, and_true, true_and, not_false_eq_true, Int.reduceAdd, Int.reduceSub, Int.reduceMul, Int.reduceNeg, r0, r3, hb.1, hb.2, x1, ds_8 hS, dt_2 hT, dt_l1 hT, dt_r hT, dt_lr hT, ct_9 hT2, ct_l30 hT2, ct_or hT2, ct_ol hT2, cm_o hM]
      | with_reducible first | refine izl_lt (fun hc => ?_) (fun hc => ?_) | refine izl_ge (fun hc => ?_) (fun hc => ?_) | refine izl_eq (fun hc => ?_) (fun hc => ?_) | refine ic_ge (fun hc => ?_) (fun hc => ?_) | refine ic_lt (fun hc => ?_) (fun hc => ?_) | refine ic_ne (fun hc => ?_) (fun hc => ?_) | refine ic_eq (fun hc => ?_) (fun hc => ?_) | refine ic_le (fun hc => ?_) (fun hc => ?_) | refine ic_gt (fun hc => ?_) (fun hc => ?_) | refine iz_eq (fun hc => ?_) (fun hc => ?_) | refine iz_ne (fun hc => ?_) (fun hc => ?_) | refine iz_lt (fun hc => ?_) (fun hc => ?_) | refine iz_ge (fun hc => ?_) (fun hc => ?_) | refine iz_gt (fun hc => ?_) (fun hc => ?_) | refine iz_le (fun hc => ?_) (fun hc => ?_) | refine iz_nu (fun hc => ?_) (fun hc => ?_) | refine iz_nn (fun hc => ?_) (fun hc => ?_)
      | omega
      | (exfalso; omega)
    exact go _ _ _ (hS.fi frI.rf hf1) hX1 p1 (up_ne (by omega)) hf1 es
  · rw [if_neg hb] at eb
    rw [eb] at es
    repeat' first
      | exact absurd hc (by decide)
      | simp (disch := omega) only [t_X2_setOut, ue_X2_setOut, zLg, zRf, zFq, zEl, zNz, zUf, zUe, zUr, zCe, zSn, gd_0, gd_1, gd_2, gd_3, gd_4, gd_5, gd_6, gd_7, gd_8, gd_9, gd_10, gd_11, gd_12, gd_13, gd_14, gd_15, gd_16, gd_17, gd_18, gd_19, se_0, se_1, se_2, se_3, se_4, se_5, se_6, se_7, se_8, se_9, se_10, se_11, se_12, se_13, se_14, se_15, se_16, se_17, se_18, se_19, e_const, e_load, e_store, e_iinc, e_dup, e_dup2, e_pop, e_iadd, e_isub, e_imul, e_ladd, e_lsub, e_lmul, e_iaddw, e_isubw, e_imulw, e_laddw, e_lsubw, e_lmulw, e_iand, e_ior, e_ishl, e_ishr, e_iushr, e_lcmp, e_imax, e_imin, e_idiv, e_irem, e_ldiv, e_lrem, e_i2l, e_i2b, e_l2i, e_i2c, e_getF, e_getR, e_putF, e_putR, e_putz, e_ald, e_aldR, e_ast, e_astb, e_astz, e_asta, e_len, e_acopy, e_new, e_newa, e_mna, e_this, e_room, e_call0, e_callv0, e_call1, e_callv1, e_inv1, e_invv1, e_call2, e_callv2, e_inv2, e_invv2, e_call3, e_callv3, e_inv3, e_invv3, e_call4, e_callv4, e_inv4, e_invv4, e_call5, e_callv5, e_inv5, e_invv5, e_call6, e_callv6, e_inv6, e_invv6, e_call7, e_callv7, e_inv7, e_invv7, e_call8, e_callv8, e_inv8, e_invv8, e_ret, e_retz, e_retc, e_retb, e_retv, e_skip, e_sco, e_tlen, e_tat, e_iz_eq0, e_iz_eq1, e_iz_ne0, e_iz_ne1, add0, sc_d, sc_t, inI_e, inL_e, up_eq, true_or, or_true, or_false, false_or, and_true, true_and, not_false_eq_true, Int.reduceAdd, Int.reduceSub, Int.reduceMul, Int.reduceNeg, r0, r3, x1, ds_8 hS, dt_2 hT, dt_l1 hT, dt_r hT, dt_lr hT, ct_9 hT2, ct_l30 hT2, ct_or hT2, ct_ol hT2, cm_o hM]
      | with_reducible first | refine izl_lt (fun hc => ?_) (fun hc => ?_) | refine izl_ge (fun hc => ?_) (fun hc => ?_) | refine izl_eq (fun hc => ?_) (fun hc => ?_) | refine ic_ge (fun hc => ?_) (fun hc => ?_) | refine ic_lt (fun hc => ?_) (fun hc => ?_) | refine ic_ne (fun hc => ?_) (fun hc => ?_) | refine ic_eq (fun hc => ?_) (fun hc => ?_) | refine ic_le (fun hc => ?_) (fun hc => ?_) | refine ic_gt (fun hc => ?_) (fun hc => ?_) | refine iz_eq (fun hc => ?_) (fun hc => ?_) | refine iz_ne (fun hc => ?_) (fun hc => ?_) | refine iz_lt (fun hc => ?_) (fun hc => ?_) | refine iz_ge (fun hc => ?_) (fun hc => ?_) | refine iz_gt (fun hc => ?_) (fun hc => ?_) | refine iz_le (fun hc => ?_) (fun hc => ?_) | refine iz_nu (fun hc => ?_) (fun hc => ?_) | refine iz_nn (fun hc => ?_) (fun hc => ?_)
      | omega
      | (exfalso; omega)
    all_goals first
      | exact go D E _ hS hX hw rfl frI.rf es
      | exact absurd ⟨by omega, by omega⟩ hb
theorem sX_goOn (hS : dyS d a y C L R F E) (hX : dyX d C D F E) (hw : dWf C D) {K : Int} (hK : dK D K) (hK2 : K ≤ 400000) (hh : D 10 0 < 120) (hQ : ∀ F' E' : Int → Int → Int, dyX d C (hrD C D) F' E' → frI d (d + 17) E E' → frI d (d + 17) F F' → Q 0 (L, R, F', E', N)) : T_X2_goOn [d] (L, R, F, E, N) Q := by
  have hT := ds_t hS
  have hW := ds_cw hS
  have pd := dt_p hT
  have b1 := cw_1 hW
  have hn := hw.2.1
  have x2 := hX.2.1
  have x1 := hX.1
  have hh0 := hw.1
  obtain ⟨A1, A2, A3, A4⟩ := it_only (f := mvD C) (fun D l h u v => mvD_ok hW h u v) hw hK (D 10 1).toNat (by omega)
  obtain ⟨B1, B2, B3, B4⟩ := it_op hW A1 A2 (C 0 1 0).toNat (by omega)
  obtain ⟨C1, C2, C3, C4⟩ := it_only (f := soD C) (fun D l h u v => soD_ok hW h u v) B1 B2 (D 10 1).toNat (by rw [B3, A3]; omega)
  simp (disch := omega) only [ub_X2_goOn_92, ub_X2_goOn_80, ue_X2_goOn, t_X2_goOn, zLg, zRf, zFq, zEl, zNz, zUf, zUe, zUr, zCe, zSn, gd_0, gd_1, gd_2, gd_3, gd_4, gd_5, gd_6, gd_7, gd_8, gd_9, gd_10, gd_11, gd_12, gd_13, gd_14, gd_15, gd_16, gd_17, gd_18, gd_19, se_0, se_1, se_2, se_3, se_4, se_5, se_6, se_7, se_8, se_9, se_10, se_11, se_12, se_13, se_14, se_15, se_16, se_17, se_18, se_19, e_const, e_load, e_store, e_iinc, e_dup, e_dup2, e_pop, e_iadd, e_isub, e_imul, e_ladd, e_lsub, e_lmul, e_iaddw, e_isubw, e_imulw, e_laddw, e_lsubw, e_lmulw, e_iand, e_ior, e_ishl, e_ishr, e_iushr, e_lcmp, e_imax, e_imin, e_idiv, e_irem, e_ldiv, e_lrem, e_i2l, e_i2b, e_l2i, e_i2c, e_getF, e_getR, e_putF, e_putR, e_putz, e_ald, e_aldR, e_ast, e_astb, e_astz, e_asta, e_len, e_acopy, e_new, e_newa, e_mna, e_this, e_room, e_call0, e_callv0, e_call1, e_callv1, e_inv1, e_invv1, e_call2, e_callv2, e_inv2, e_invv2, e_call3, e_callv3, e_inv3, e_invv3, e_call4, e_callv4, e_inv4, e_invv4, e_call5, e_callv5, e_inv5, e_invv5, e_call6, e_callv6, e_inv6, e_invv6, e_call7, e_callv7, e_inv7, e_invv7, e_call8, e_callv8, e_inv8, e_invv8, e_ret, e_retz, e_retc, e_retb, e_retv, e_skip, e_sco, e_tlen, e_tat, e_iz_eq0, e_iz_eq1, e_iz_ne0, e_iz_ne1, add0, sc_d, sc_t, inI_e, inL_e, up_eq, true_or, or_true, or_false, false_or, and_true, true_and, not_false_eq_true, Int.reduceAdd, Int.reduceSub, Int.reduceMul, Int.reduceNeg]
  -- phase 4
  have ph4 : ∀ (E4 : Int → Int → Int) (c s : Nat), dyX d C (itD (soD C) (itD (opD C) (itD (mvD C) D (D 10 1).toNat) (C 0 1 0).toNat) (D 10 1).toNat) F E4 → frI d (d + 17) E E4 → L_X2_goOn_48 Q [d, 0] [] (L, R, F, E4, N) c s := by
    intro E4 c s hX4 hf4
    have ehr : hrD C D = up (itD wtD (itD (soD C) (itD (opD C) (itD (mvD C) D (D 10 1).toNat) (C 0 1 0).toNat) (D 10 1).toNat) (D 10 1).toNat) 10 0 (D 10 0 + 1) := rfl
    have e10 : ∀ j : Int, itD (soD C) (itD (opD C) (itD (mvD C) D (D 10 1).toNat) (C 0 1 0).toNat) (D 10 1).toNat 10 j = D 10 j := fun j => by rw [C3, B3, A3]
    generalize itD (soD C) (itD (opD C) (itD (mvD C) D (D 10 1).toNat) (C 0 1 0).toNat) (D 10 1).toNat = D4 at *
    unfold L_X2_goOn_48
    refine lpw (fun n lo st h c s => ∃ (i : Int) (E' : Int → Int → Int), lo = [d, i] ∧ st = [] ∧ h = (L, R, F, E', N) ∧ 0 ≤ i ∧ i ≤ D 10 1 ∧ (n : Int) = D 10 1 - i ∧ frI d (d + 17) E E' ∧ dyX d C (itD wtD D4 i.toNat) F E') ?_ (n := (D 10 1).toNat) ⟨0, E4, rfl, rfl, rfl, by omega, by omega, by omega, hf4, hX4⟩
    rintro n k hk lo st h c s ⟨i, E', rfl, rfl, rfl, hi, hi2, hn1, hf, hXi⟩
    obtain ⟨w1, w2, w3⟩ := it_wt C1 C2 i.toNat (by rw [e10]; omega)
    by_cases hlt : i < D 10 1
    · have eit := itD_s (f := wtD) (D := D4) hi
      have e10i : itD wtD D4 i.toNat 10 1 = D 10 1 := (w3 10 1 (by omega)).trans (e10 1)
      have r3 := hXi.2.2.1 3 i (by omega) (by omega) hi (by omega)
      have r5 := hXi.2.2.1 5 i (by omega) (by omega) hi (by omega)
      have k5 := w2.2 i hi (by omega)
      have ew : wtD (itD wtD D4 i.toNat) i = if itD wtD D4 i.toNat 3 i = 1 ∨ itD wtD D4 i.toNat 3 i = 3 then up (itD wtD D4 i.toNat) 5 i (itD wtD D4 i.toNat 5 i + 1) else itD wtD D4 i.toNat := rfl
      generalize itD wtD D4 i.toNat = Di at *
      have inc : (Di 3 i = 1 ∨ Di 3 i = 3) → k [d, i + 1] [] (L, R, F, up E' (d + 2 + 5) i (Di 5 i + 1), N) c s := fun z => by
        rw [if_pos z] at ew
        refine hk (n - 1) _ _ _ _ _ (by omega) ⟨i + 1, up E' (d + 2 + 5) i (Di 5 i + 1), rfl, rfl, rfl, by omega, by omega, by omega, hf.tr (frI.up (by omega) (by omega)), ?_⟩
        rw [eit, ew]
        obtain ⟨y1, y2, hR, hcr, hg, ht⟩ := hXi
        refine ⟨by rw [up_ne (by omega)]; exact y1, by rw [up_ne (by omega)]; exact y2, dR_up hR (by omega), fun c u v => ?_, fun q u v => ?_, fun q u v => ?_⟩
        · rw [up_ne (by omega)]
          exact onV_same (fun q _ _ => up_ne (by omega)) (up_ne (by omega)) (hcr c u v)
        · rw [up_ne (by omega)]
          exact bzV_same (fun x _ _ => ⟨by rw [up_ne (by omega)], fun _ => gah_eq (up_ne (by omega)) (up_ne (by omega))⟩) (up_ne (by omega)) (hg q u v)
        · simp (disch := omega) only [up_ne]
          exact ht q u v
      have nox : ¬ (Di 3 i = 1 ∨ Di 3 i = 3) → k [d, i + 1] [] (L, R, F, E', N) c s := fun z => by
        rw [if_neg z] at ew
        exact hk (n - 1) _ _ _ _ _ (by omega) ⟨i + 1, E', rfl, rfl, rfl, by omega, by omega, by omega, hf, by rw [eit, ew]; exact hXi⟩
      repeat' first
        | exact absurd hc (by decide)
        | simp (disch := omega) only [ub_X2_goOn_92, ub_X2_goOn_80, ue_X2_goOn, t_X2_goOn, zLg, zRf, zFq, zEl, zNz, zUf, zUe, zUr, zCe, zSn, gd_0, gd_1, gd_2, gd_3, gd_4, gd_5, gd_6, gd_7, gd_8, gd_9, gd_10, gd_11, gd_12, gd_13, gd_14, gd_15, gd_16, gd_17, gd_18, gd_19, se_0, se_1, se_2, se_3, se_4, se_5, se_6, se_7, se_8, se_9, se_10, se_11, se_12, se_13, se_14, se_15, se_16, se_17, se_18, se_19, e_const, e_load, e_store, e_iinc, e_dup, e_dup2, e_pop, e_iadd, e_isub, e_imul, e_ladd, e_lsub, e_lmul, e_iaddw, e_isubw, e_imulw, e_laddw, e_lsubw, e_lmulw, e_iand, e_ior, e_ishl, e_ishr, e_iushr, e_lcmp, e_imax, e_imin, e_idiv, e_irem, e_ldiv, e_lrem, e_i2l, e_i2b, e_l2i, e_i2c, e_getF, e_getR, e_putF, e_putR, e_putz, e_ald, e_aldR, e_ast, e_astb, e_astz, e_asta, e_len, e_acopy, e_new, e_newa, e_mna, e_this, e_room, e_call0, e_callv0, e_call1, e_callv1, e_inv1, e_invv1, e_call2, e_callv2, e_inv2, e_invv2, e_call3, e_callv3, e_inv3, e_invv3, e_call4, e_callv4, e_inv4, e_invv4, e_call5, e_callv5, e_inv5, e_invv5, e_call6, e_callv6, e_inv6, e_invv6, e_call7, e_callv7, e_inv7, e_invv7, e_call8, e_callv8, e_inv8, e_invv8, e_ret, e_retz, e_retc, e_retb, e_retv, e_skip, e_sco, e_tlen, e_tat, e_iz_eq0, e_iz_eq1, e_iz_ne0, e_iz_ne1, add0, sc_d, sc_t, inI_e, inL_e, up_eq, true_or, or_true, or_false, false_or, and_true, true_and, not_false_eq_true, Int.reduceAdd, Int.reduceSub, Int.reduceMul, Int.reduceNeg, x2, r3, r5, dt_2 hT, dt_l1 hT, dt_r hT, dt_lr hT]
        | with_reducible first | refine izl_lt (fun hc => ?_) (fun hc => ?_) | refine izl_ge (fun hc => ?_) (fun hc => ?_) | refine izl_eq (fun hc => ?_) (fun hc => ?_) | refine ic_ge (fun hc => ?_) (fun hc => ?_) | refine ic_lt (fun hc => ?_) (fun hc => ?_) | refine ic_ne (fun hc => ?_) (fun hc => ?_) | refine ic_eq (fun hc => ?_) (fun hc => ?_) | refine ic_le (fun hc => ?_) (fun hc => ?_) | refine ic_gt (fun hc => ?_) (fun hc => ?_) | refine iz_eq (fun hc => ?_) (fun hc => ?_) | refine iz_ne (fun hc => ?_) (fun hc => ?_) | refine iz_lt (fun hc => ?_) (fun hc => ?_) | refine iz_ge (fun hc => ?_) (fun hc => ?_) | refine iz_gt (fun hc => ?_) (fun hc => ?_) | refine iz_le (fun hc => ?_) (fun hc => ?_) | refine iz_nu (fun hc => ?_) (fun hc => ?_) | refine iz_nn (fun hc => ?_) (fun hc => ?_)
        | omega
        | (exfalso; omega)
      all_goals first
        | exact inc (by omega)
        | exact nox (by omega)
    · have hie : i = D 10 1 := by omega
      rw [hie] at hXi
      repeat' first
        | exact absurd hc (by decide)
        | simp (disch := omega) only [ub_X2_goOn_92, ub_X2_goOn_80, ue_X2_goOn, t_X2_goOn, zLg, zRf, zFq, zEl, zNz, zUf, zUe, zUr, zCe, zSn, gd_0, gd_1, gd_2, gd_3, gd_4, gd_5, gd_6, gd_7, gd_8, gd_9, gd_10, gd_11, gd_12, gd_13, gd_14, gd_15, gd_16, gd_17, gd_18, gd_19, se_0, se_1, se_2, se_3, se_4, se_5, se_6, se_7, se_8, se_9, se_10, se_11, se_12, se_13, se_14, se_15, se_16, se_17, se_18, se_19, e_const, e_load, e_store, e_iinc, e_dup, e_dup2, e_pop, e_iadd, e_isub, e_imul, e_ladd, e_lsub, e_lmul, e_iaddw, e_isubw, e_imulw, e_laddw, e_lsubw, e_lmulw, e_iand, e_ior, e_ishl, e_ishr, e_iushr, e_lcmp, e_imax, e_imin, e_idiv, e_irem, e_ldiv, e_lrem, e_i2l, e_i2b, e_l2i, e_i2c, e_getF, e_getR, e_putF, e_putR, e_putz, e_ald, e_aldR, e_ast, e_astb, e_astz, e_asta, e_len, e_acopy, e_new, e_newa, e_mna, e_this, e_room, e_call0, e_callv0, e_call1, e_callv1, e_inv1, e_invv1, e_call2, e_callv2, e_inv2, e_invv2, e_call3, e_callv3, e_inv3, e_invv3, e_call4, e_callv4, e_inv4, e_invv4, e_call5, e_callv5, e_inv5, e_invv5, e_call6, e_callv6, e_inv6, e_invv6, e_call7, e_callv7, e_inv7, e_invv7, e_call8, e_callv8, e_inv8, e_invv8, e_ret, e_retz, e_retc, e_retb, e_retv, e_skip, e_sco, e_tlen, e_tat, e_iz_eq0, e_iz_eq1, e_iz_ne0, e_iz_ne1, add0, sc_d, sc_t, inI_e, inL_e, up_eq, true_or, or_true, or_false, false_or, and_true, true_and, not_false_eq_true, Int.reduceAdd, Int.reduceSub, Int.reduceMul, Int.reduceNeg, x1, x2]
        | with_reducible first | refine izl_lt (fun hc => ?_) (fun hc => ?_) | refine izl_ge (fun hc => ?_) (fun hc => ?_) | refine izl_eq (fun hc => ?_) (fun hc => ?_) | refine ic_ge (fun hc => ?_) (fun hc => ?_) | refine ic_lt (fun hc => ?_) (fun hc => ?_) | refine ic_ne (fun hc => ?_) (fun hc => ?_) | refine ic_eq (fun hc => ?_) (fun hc => ?_) | refine ic_le (fun hc => ?_) (fun hc => ?_) | refine ic_gt (fun hc => ?_) (fun hc => ?_) | refine iz_eq (fun hc => ?_) (fun hc => ?_) | refine iz_ne (fun hc => ?_) (fun hc => ?_) | refine iz_lt (fun hc => ?_) (fun hc => ?_) | refine iz_ge (fun hc => ?_) (fun hc => ?_) | refine iz_gt (fun hc => ?_) (fun hc => ?_) | refine iz_le (fun hc => ?_) (fun hc => ?_) | refine iz_nu (fun hc => ?_) (fun hc => ?_) | refine iz_nn (fun hc => ?_) (fun hc => ?_)
        | omega
        | (exfalso; omega)
      refine hQ (up F d 0 (D 10 0 + 1)) E' ?_ hf (frI.up (by omega) (by omega))
      rw [ehr]
      obtain ⟨y1, y2, hR, hcr, hg, ht⟩ := hXi
      refine ⟨by rw [up_eq, up_eq], by rw [up_ne (by omega), up_ne (by omega)]; exact y2, fun w q u v x z => ?_, fun c u v => ?_, fun q u v => ?_, fun q u v => ?_⟩
      · rw [up_ne (by omega)] at z ⊢
        exact hR w q u v x z
      · exact onV_same (fun q _ _ => up_ne (by omega)) (up_ne (by omega)) (hcr c u v)
      · exact bzV_same (fun x _ _ => ⟨by rw [up_ne (by omega)], fun _ => gah_eq (up_ne (by omega)) (up_ne (by omega))⟩) (up_ne (by omega)) (hg q u v)
      · simp (disch := omega) only [up_ne]
        exact ht q u v
  -- phase 3
  have ph3 : ∀ (E3 : Int → Int → Int) (c s : Nat), dyX d C (itD (opD C) (itD (mvD C) D (D 10 1).toNat) (C 0 1 0).toNat) F E3 → frI d (d + 17) E E3 → L_X2_goOn_27 Q [d, 0] [] (L, R, F, E3, N) c s := by
    intro E3 c s hX3 hf3
    have e10 : itD (opD C) (itD (mvD C) D (D 10 1).toNat) (C 0 1 0).toNat 10 1 = D 10 1 := by rw [B3, A3]
    generalize itD (opD C) (itD (mvD C) D (D 10 1).toNat) (C 0 1 0).toNat = D3 at *
    unfold L_X2_goOn_27
    refine lpw (fun n lo st h c s => ∃ (i : Int) (E' : Int → Int → Int), lo = [d, i] ∧ st = [] ∧ h = (L, R, F, E', N) ∧ 0 ≤ i ∧ i ≤ D 10 1 ∧ (n : Int) = D 10 1 - i ∧ frI d (d + 17) E E' ∧ dyX d C (itD (soD C) D3 i.toNat) F E') ?_ (n := (D 10 1).toNat) ⟨0, E3, rfl, rfl, rfl, by omega, by omega, by omega, hf3, hX3⟩
    rintro n k hk lo st h c s ⟨i, E', rfl, rfl, rfl, hi, hi2, hn1, hf, hXi⟩
    obtain ⟨w1, w2, w3, w4⟩ := it_only (f := soD C) (fun D l h u v => soD_ok hW h u v) B1 B2 i.toNat (by omega)
    have hS' := hS.fi (frI.rf (F := F)) hf
    by_cases hlt : i < D 10 1
    · have eit := itD_s (f := soD C) (D := D3) hi
      repeat' first
        | exact absurd hc (by decide)
        | simp (disch := omega) only [ub_X2_goOn_92, ub_X2_goOn_80, ue_X2_goOn, t_X2_goOn, zLg, zRf, zFq, zEl, zNz, zUf, zUe, zUr, zCe, zSn, gd_0, gd_1, gd_2, gd_3, gd_4, gd_5, gd_6, gd_7, gd_8, gd_9, gd_10, gd_11, gd_12, gd_13, gd_14, gd_15, gd_16, gd_17, gd_18, gd_19, se_0, se_1, se_2, se_3, se_4, se_5, se_6, se_7, se_8, se_9, se_10, se_11, se_12, se_13, se_14, se_15, se_16, se_17, se_18, se_19, e_const, e_load, e_store, e_iinc, e_dup, e_dup2, e_pop, e_iadd, e_isub, e_imul, e_ladd, e_lsub, e_lmul, e_iaddw, e_isubw, e_imulw, e_laddw, e_lsubw, e_lmulw, e_iand, e_ior, e_ishl, e_ishr, e_iushr, e_lcmp, e_imax, e_imin, e_idiv, e_irem, e_ldiv, e_lrem, e_i2l, e_i2b, e_l2i, e_i2c, e_getF, e_getR, e_putF, e_putR, e_putz, e_ald, e_aldR, e_ast, e_astb, e_astz, e_asta, e_len, e_acopy, e_new, e_newa, e_mna, e_this, e_room, e_call0, e_callv0, e_call1, e_callv1, e_inv1, e_invv1, e_call2, e_callv2, e_inv2, e_invv2, e_call3, e_callv3, e_inv3, e_invv3, e_call4, e_callv4, e_inv4, e_invv4, e_call5, e_callv5, e_inv5, e_invv5, e_call6, e_callv6, e_inv6, e_invv6, e_call7, e_callv7, e_inv7, e_invv7, e_call8, e_callv8, e_inv8, e_invv8, e_ret, e_retz, e_retc, e_retb, e_retv, e_skip, e_sco, e_tlen, e_tat, e_iz_eq0, e_iz_eq1, e_iz_ne0, e_iz_ne1, add0, sc_d, sc_t, inI_e, inL_e, up_eq, true_or, or_true, or_false, false_or, and_true, true_and, not_false_eq_true, Int.reduceAdd, Int.reduceSub, Int.reduceMul, Int.reduceNeg, x2]
        | with_reducible first | refine izl_lt (fun hc => ?_) (fun hc => ?_) | refine izl_ge (fun hc => ?_) (fun hc => ?_) | refine izl_eq (fun hc => ?_) (fun hc => ?_) | refine ic_ge (fun hc => ?_) (fun hc => ?_) | refine ic_lt (fun hc => ?_) (fun hc => ?_) | refine ic_ne (fun hc => ?_) (fun hc => ?_) | refine ic_eq (fun hc => ?_) (fun hc => ?_) | refine ic_le (fun hc => ?_) (fun hc => ?_) | refine ic_gt (fun hc => ?_) (fun hc => ?_) | refine iz_eq (fun hc => ?_) (fun hc => ?_) | refine iz_ne (fun hc => ?_) (fun hc => ?_) | refine iz_lt (fun hc => ?_) (fun hc => ?_) | refine iz_ge (fun hc => ?_) (fun hc => ?_) | refine iz_gt (fun hc => ?_) (fun hc => ?_) | refine iz_le (fun hc => ?_) (fun hc => ?_) | refine iz_nu (fun hc => ?_) (fun hc => ?_) | refine iz_nn (fun hc => ?_) (fun hc => ?_)
        | omega
        | (exfalso; omega)
      refine sX_setOut hS' hXi w1 hi (by rw [w3]; omega) fun E2 q1 q2 => ?_
      exact hk (n - 1) _ _ _ _ _ (by omega) ⟨i + 1, E2, rfl, rfl, rfl, by omega, by omega, by omega, hf.tr q2, by rw [eit]; exact q1⟩
    · have hie : i = D 10 1 := by omega
      rw [hie] at hXi
      repeat' first
        | exact absurd hc (by decide)
        | simp (disch := omega) only [ub_X2_goOn_92, ub_X2_goOn_80, ue_X2_goOn, t_X2_goOn, zLg, zRf, zFq, zEl, zNz, zUf, zUe, zUr, zCe, zSn, gd_0, gd_1, gd_2, gd_3, gd_4, gd_5, gd_6, gd_7, gd_8, gd_9, gd_10, gd_11, gd_12, gd_13, gd_14, gd_15, gd_16, gd_17, gd_18, gd_19, se_0, se_1, se_2, se_3, se_4, se_5, se_6, se_7, se_8, se_9, se_10, se_11, se_12, se_13, se_14, se_15, se_16, se_17, se_18, se_19, e_const, e_load, e_store, e_iinc, e_dup, e_dup2, e_pop, e_iadd, e_isub, e_imul, e_ladd, e_lsub, e_lmul, e_iaddw, e_isubw, e_imulw, e_laddw, e_lsubw, e_lmulw, e_iand, e_ior, e_ishl, e_ishr, e_iushr, e_lcmp, e_imax, e_imin, e_idiv, e_irem, e_ldiv, e_lrem, e_i2l, e_i2b, e_l2i, e_i2c, e_getF, e_getR, e_putF, e_putR, e_putz, e_ald, e_aldR, e_ast, e_astb, e_astz, e_asta, e_len, e_acopy, e_new, e_newa, e_mna, e_this, e_room, e_call0, e_callv0, e_call1, e_callv1, e_inv1, e_invv1, e_call2, e_callv2, e_inv2, e_invv2, e_call3, e_callv3, e_inv3, e_invv3, e_call4, e_callv4, e_inv4, e_invv4, e_call5, e_callv5, e_inv5, e_invv5, e_call6, e_callv6, e_inv6, e_invv6, e_call7, e_callv7, e_inv7, e_invv7, e_call8, e_callv8, e_inv8, e_invv8, e_ret, e_retz, e_retc, e_retb, e_retv, e_skip, e_sco, e_tlen, e_tat, e_iz_eq0, e_iz_eq1, e_iz_ne0, e_iz_ne1, add0, sc_d, sc_t, inI_e, inL_e, up_eq, true_or, or_true, or_false, false_or, and_true, true_and, not_false_eq_true, Int.reduceAdd, Int.reduceSub, Int.reduceMul, Int.reduceNeg, x2]
        | with_reducible first | refine izl_lt (fun hc => ?_) (fun hc => ?_) | refine izl_ge (fun hc => ?_) (fun hc => ?_) | refine izl_eq (fun hc => ?_) (fun hc => ?_) | refine ic_ge (fun hc => ?_) (fun hc => ?_) | refine ic_lt (fun hc => ?_) (fun hc => ?_) | refine ic_ne (fun hc => ?_) (fun hc => ?_) | refine ic_eq (fun hc => ?_) (fun hc => ?_) | refine ic_le (fun hc => ?_) (fun hc => ?_) | refine ic_gt (fun hc => ?_) (fun hc => ?_) | refine iz_eq (fun hc => ?_) (fun hc => ?_) | refine iz_ne (fun hc => ?_) (fun hc => ?_) | refine iz_lt (fun hc => ?_) (fun hc => ?_) | refine iz_ge (fun hc => ?_) (fun hc => ?_) | refine iz_gt (fun hc => ?_) (fun hc => ?_) | refine iz_le (fun hc => ?_) (fun hc => ?_) | refine iz_nu (fun hc => ?_) (fun hc => ?_) | refine iz_nn (fun hc => ?_) (fun hc => ?_)
        | omega
        | (exfalso; omega)
      exact ph4 E' _ _ hXi hf
  unfold L_X2_goOn_2
  refine lpw (fun n lo st h c s => ∃ (i : Int) (E' : Int → Int → Int), lo = [d, i] ∧ st = [] ∧ h = (L, R, F, E', N) ∧ 0 ≤ i ∧ i ≤ D 10 1 ∧ (n : Int) = D 10 1 - i ∧ frI d (d + 17) E E' ∧ dyX d C (itD (mvD C) D i.toNat) F E') ?_ (n := (D 10 1).toNat) ⟨0, E, rfl, rfl, rfl, by omega, by omega, by omega, frI.rf, hX⟩
  rintro n k hk lo st h c s ⟨i, E', rfl, rfl, rfl, hi, hi2, hn1, hf, hXi⟩
  obtain ⟨w1, w2, w3, w4⟩ := it_only (f := mvD C) (fun D l h u v => mvD_ok hW h u v) hw hK i.toNat (by omega)
  have hS' := hS.fi (frI.rf (F := F)) hf
  by_cases hlt : i < D 10 1
  · have eit := itD_s (f := mvD C) (D := D) hi
    repeat' first
      | exact absurd hc (by decide)
      | simp (disch := omega) only [ub_X2_goOn_92, ub_X2_goOn_80, ue_X2_goOn, t_X2_goOn, zLg, zRf, zFq, zEl, zNz, zUf, zUe, zUr, zCe, zSn, gd_0, gd_1, gd_2, gd_3, gd_4, gd_5, gd_6, gd_7, gd_8, gd_9, gd_10, gd_11, gd_12, gd_13, gd_14, gd_15, gd_16, gd_17, gd_18, gd_19, se_0, se_1, se_2, se_3, se_4, se_5, se_6, se_7, se_8, se_9, se_10, se_11, se_12, se_13, se_14, se_15, se_16, se_17, se_18, se_19, e_const, e_load, e_store, e_iinc, e_dup, e_dup2, e_pop, e_iadd, e_isub, e_imul, e_ladd, e_lsub, e_lmul, e_iaddw, e_isubw, e_imulw, e_laddw, e_lsubw, e_lmulw, e_iand, e_ior, e_ishl, e_ishr, e_iushr, e_lcmp, e_imax, e_imin, e_idiv, e_irem, e_ldiv, e_lrem, e_i2l, e_i2b, e_l2i, e_i2c, e_getF, e_getR, e_putF, e_putR, e_putz, e_ald, e_aldR, e_ast, e_astb, e_astz, e_asta, e_len, e_acopy, e_new, e_newa, e_mna, e_this, e_room, e_call0, e_callv0, e_call1, e_callv1, e_inv1, e_invv1, e_call2, e_callv2, e_inv2, e_invv2, e_call3, e_callv3, e_inv3, e_invv3, e_call4, e_callv4, e_inv4, e_invv4, e_call5, e_callv5, e_inv5, e_invv5, e_call6, e_callv6, e_inv6, e_invv6, e_call7, e_callv7, e_inv7, e_invv7, e_call8, e_callv8, e_inv8, e_invv8, e_ret, e_retz, e_retc, e_retb, e_retv, e_skip, e_sco, e_tlen, e_tat, e_iz_eq0, e_iz_eq1, e_iz_ne0, e_iz_ne1, add0, sc_d, sc_t, inI_e, inL_e, up_eq, true_or, or_true, or_false, false_or, and_true, true_and, not_false_eq_true, Int.reduceAdd, Int.reduceSub, Int.reduceMul, Int.reduceNeg, x2]
      | with_reducible first | refine izl_lt (fun hc => ?_) (fun hc => ?_) | refine izl_ge (fun hc => ?_) (fun hc => ?_) | refine izl_eq (fun hc => ?_) (fun hc => ?_) | refine ic_ge (fun hc => ?_) (fun hc => ?_) | refine ic_lt (fun hc => ?_) (fun hc => ?_) | refine ic_ne (fun hc => ?_) (fun hc => ?_) | refine ic_eq (fun hc => ?_) (fun hc => ?_) | refine ic_le (fun hc => ?_) (fun hc => ?_) | refine ic_gt (fun hc => ?_) (fun hc => ?_) | refine iz_eq (fun hc => ?_) (fun hc => ?_) | refine iz_ne (fun hc => ?_) (fun hc => ?_) | refine iz_lt (fun hc => ?_) (fun hc => ?_) | refine iz_ge (fun hc => ?_) (fun hc => ?_) | refine iz_gt (fun hc => ?_) (fun hc => ?_) | refine iz_le (fun hc => ?_) (fun hc => ?_) | refine iz_nu (fun hc => ?_) (fun hc => ?_) | refine iz_nn (fun hc => ?_) (fun hc => ?_)
      | omega
      | (exfalso; omega)
    refine sX_advance hS' hXi w1 hi (by rw [w3]; omega) fun E2 q1 q2 => ?_
    exact hk (n - 1) _ _ _ _ _ (by omega) ⟨i + 1, E2, rfl, rfl, rfl, by omega, by omega, by omega, hf.tr q2, by rw [eit]; exact q1⟩
  · have hie : i = D 10 1 := by omega
    rw [hie] at hXi
    repeat' first
      | exact absurd hc (by decide)
      | simp (disch := omega) only [ub_X2_goOn_92, ub_X2_goOn_80, ue_X2_goOn, t_X2_goOn, zLg, zRf, zFq, zEl, zNz, zUf, zUe, zUr, zCe, zSn, gd_0, gd_1, gd_2, gd_3, gd_4, gd_5, gd_6, gd_7, gd_8, gd_9, gd_10, gd_11, gd_12, gd_13, gd_14, gd_15, gd_16, gd_17, gd_18, gd_19, se_0, se_1, se_2, se_3, se_4, se_5, se_6, se_7, se_8, se_9, se_10, se_11, se_12, se_13, se_14, se_15, se_16, se_17, se_18, se_19, e_const, e_load, e_store, e_iinc, e_dup, e_dup2, e_pop, e_iadd, e_isub, e_imul, e_ladd, e_lsub, e_lmul, e_iaddw, e_isubw, e_imulw, e_laddw, e_lsubw, e_lmulw, e_iand, e_ior, e_ishl, e_ishr, e_iushr, e_lcmp, e_imax, e_imin, e_idiv, e_irem, e_ldiv, e_lrem, e_i2l, e_i2b, e_l2i, e_i2c, e_getF, e_getR, e_putF, e_putR, e_putz, e_ald, e_aldR, e_ast, e_astb, e_astz, e_asta, e_len, e_acopy, e_new, e_newa, e_mna, e_this, e_room, e_call0, e_callv0, e_call1, e_callv1, e_inv1, e_invv1, e_call2, e_callv2, e_inv2, e_invv2, e_call3, e_callv3, e_inv3, e_invv3, e_call4, e_callv4, e_inv4, e_invv4, e_call5, e_callv5, e_inv5, e_invv5, e_call6, e_callv6, e_inv6, e_invv6, e_call7, e_callv7, e_inv7, e_invv7, e_call8, e_callv8, e_inv8, e_invv8, e_ret, e_retz, e_retc, e_retb, e_retv, e_skip, e_sco, e_tlen, e_tat, e_iz_eq0, e_iz_eq1, e_iz_ne0, e_iz_ne1, add0, sc_d, sc_t, inI_e, inL_e, up_eq, true_or, or_true, or_false, false_or, and_true, true_and, not_false_eq_true, Int.reduceAdd, Int.reduceSub, Int.reduceMul, Int.reduceNeg, x2]
      | with_reducible first | refine izl_lt (fun hc => ?_) (fun hc => ?_) | refine izl_ge (fun hc => ?_) (fun hc => ?_) | refine izl_eq (fun hc => ?_) (fun hc => ?_) | refine ic_ge (fun hc => ?_) (fun hc => ?_) | refine ic_lt (fun hc => ?_) (fun hc => ?_) | refine ic_ne (fun hc => ?_) (fun hc => ?_) | refine ic_eq (fun hc => ?_) (fun hc => ?_) | refine ic_le (fun hc => ?_) (fun hc => ?_) | refine ic_gt (fun hc => ?_) (fun hc => ?_) | refine iz_eq (fun hc => ?_) (fun hc => ?_) | refine iz_ne (fun hc => ?_) (fun hc => ?_) | refine iz_lt (fun hc => ?_) (fun hc => ?_) | refine iz_ge (fun hc => ?_) (fun hc => ?_) | refine iz_gt (fun hc => ?_) (fun hc => ?_) | refine iz_le (fun hc => ?_) (fun hc => ?_) | refine iz_nu (fun hc => ?_) (fun hc => ?_) | refine iz_nn (fun hc => ?_) (fun hc => ?_)
      | omega
      | (exfalso; omega)
    refine sX_serveGates hS' hXi A1 A2 (by omega) fun E2 q1 q2 => ?_
    exact ph3 E2 _ _ q1 (hf.tr q2)
theorem hrD_ok {C : Cy} (hW : ctW C) {D : Int → Int → Int} (hw : dWf C D) (hK : dK D (2000 * D 10 0)) (hh : D 10 0 < 120) : dWf C (hrD C D) ∧ dK (hrD C D) (2000 * hrD C D 10 0) ∧ hrD C D 10 0 = D 10 0 + 1 ∧ hrD C D 10 1 = D 10 1 ∧ (∀ j : Int, hrD C D 0 j = D 0 j) := by
  have b1 := cw_1 hW
  have hn := hw.2.1
  obtain ⟨A1, A2, A3, A4⟩ := it_only (f := mvD C) (fun D l h u v => mvD_ok hW h u v) hw hK (D 10 1).toNat (by omega)
  obtain ⟨B1, B2, B3, B4⟩ := it_op hW A1 A2 (C 0 1 0).toNat (by omega)
  obtain ⟨C1, C2, C3, C4⟩ := it_only (f := soD C) (fun D l h u v => soD_ok hW h u v) B1 B2 (D 10 1).toNat (by rw [B3, A3]; omega)
  obtain ⟨D1, D2, D3⟩ := it_wt C1 C2 (D 10 1).toNat (by rw [C3, B3, A3]; omega)
  have e10 : ∀ j : Int, itD wtD (itD (soD C) (itD (opD C) (itD (mvD C) D (D 10 1).toNat) (C 0 1 0).toNat) (D 10 1).toNat) (D 10 1).toNat 10 j = D 10 j := fun j => by rw [D3 _ _ (by omega), C3, B3, A3]
  have e0 : ∀ j : Int, itD wtD (itD (soD C) (itD (opD C) (itD (mvD C) D (D 10 1).toNat) (C 0 1 0).toNat) (D 10 1).toNat) (D 10 1).toNat 0 j = D 0 j := fun j => by rw [D3 _ _ (by omega), C4, B4, A4]
  unfold hrD
  generalize itD wtD (itD (soD C) (itD (opD C) (itD (mvD C) D (D 10 1).toNat) (C 0 1 0).toNat) (D 10 1).toNat) (D 10 1).toNat = D9 at *
  refine ⟨⟨by rw [up_eq]; have := hw.1; omega, by rw [up_ne (by omega)]; exact D1.2.1, fun l u v => ?_, fun x y u v p q r => ?_⟩, ⟨fun g u v => ?_, fun l u v => ?_⟩, up_eq, by rw [up_ne (by omega)]; exact e10 1, fun j => by rw [up_ne (by omega)]; exact e0 j⟩
  · rw [up_ne (by omega)] at v
    have := D1.2.2.1 l u v
    unfold ldW at this ⊢
    simp (disch := omega) only [up_ne]
    exact this
  · rw [up_ne (by omega)] at v q
    have := D1.2.2.2 x y u v p q r
    simp (disch := omega) only [up_ne]
    rw [gah_eq (D := D9) (l := x) (up_ne (by omega)) (up_ne (by omega)), gah_eq (D := D9) (l := y) (up_ne (by omega)) (up_ne (by omega))]
    exact this
  · have := D2.1 g u v
    rw [up_eq, up_ne (by omega), up_ne (by omega)]
    omega
  · rw [up_ne (by omega)] at v
    have := D2.2 l u v
    rw [up_eq, up_ne (by omega)]
    omega
end DAYX4

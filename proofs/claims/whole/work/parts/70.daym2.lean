/-! ===== the reference's day: who is where, opening, driving, the hour ===== -/
/-- a first that is found stays found -/
theorem bzF_fix {C : Cy} {D : Int → Int → Int} {g v : Int} {n : Nat} (h : bzF C D g n = v) (hv : v ≠ -2) : ∀ k : Nat, n ≤ k → bzF C D g k = v := by
  intro k
  induction k with
  | zero => intro w; have : n = 0 := by omega
            rw [← this]; exact h
  | succ k ih =>
    intro w
    by_cases z : n = k + 1
    · rw [← z]; exact h
    · have := ih (by omega)
      unfold bzF
      rw [this, if_pos hv]
theorem onF_fix {D : Int → Int → Int} {g v : Int} {n : Nat} (h : onF D g n = v) (hv : v ≠ -2) : ∀ k : Nat, n ≤ k → onF D g k = v := by
  intro k
  induction k with
  | zero => intro w; have : n = 0 := by omega
            rw [← this]; exact h
  | succ k ih =>
    intro w
    by_cases z : n = k + 1
    · rw [← z]; exact h
    · have := ih (by omega)
      unfold onF
      rw [this, if_pos hv]
theorem ctF_fix {C : Cy} {D : Int → Int → Int} {g v : Int} {n : Nat} (h : ctF C D g n = v) (hv : v ≠ -1) : ∀ k : Nat, n ≤ k → ctF C D g k = v := by
  intro k
  induction k with
  | zero => intro w; have : n = 0 := by omega
            rw [← this]; exact h
  | succ k ih =>
    intro w
    by_cases z : n = k + 1
    · rw [← z]; exact h
    · have := ih (by omega)
      unfold ctF
      rw [this, if_pos hv]
theorem bzF_s {C : Cy} {D : Int → Int → Int} {g i : Int} (hi : 0 ≤ i) (h : bzF C D g i.toNat = -2) : bzF C D g (i + 1).toNat = if D 3 i = 4 ∧ gah C D i = g then i else -2 := by
  have e : (i + 1).toNat = i.toNat + 1 := by omega
  rw [e]
  show (if bzF C D g i.toNat ≠ -2 then bzF C D g i.toNat else if D 3 (i.toNat : Int) = 4 ∧ gah C D (i.toNat : Int) = g then (i.toNat : Int) else -2) = _
  rw [if_neg (by omega), Int.toNat_of_nonneg hi]
theorem onF_s {D : Int → Int → Int} {g i : Int} (hi : 0 ≤ i) (h : onF D g i.toNat = -2) : onF D g (i + 1).toNat = if D 6 i = g then i else -2 := by
  have e : (i + 1).toNat = i.toNat + 1 := by omega
  rw [e]
  show (if onF D g i.toNat ≠ -2 then onF D g i.toNat else if D 6 (i.toNat : Int) = g then (i.toNat : Int) else -2) = _
  rw [if_neg (by omega), Int.toNat_of_nonneg hi]
theorem ctF_s {C : Cy} {D : Int → Int → Int} {l i : Int} (hi : 0 ≤ i) (h : ctF C D l i.toNat = -1) : ctF C D l (i + 1).toNat = if onF D i (D 10 1).toNat = -2 ∧ C 3 i 0 = D 1 l ∧ thO C (D 0 l) 3 ≤ C 3 i 1 then i else -1 := by
  have e : (i + 1).toNat = i.toNat + 1 := by omega
  rw [e]
  show (if ctF C D l i.toNat ≠ -1 then ctF C D l i.toNat else if onF D (i.toNat : Int) (D 10 1).toNat = -2 ∧ C 3 (i.toNat : Int) 0 = D 1 l ∧ thO C (D 0 l) 3 ≤ C 3 (i.toNat : Int) 1 then (i.toNat : Int) else -1) = _
  rw [if_neg (by omega), Int.toNat_of_nonneg hi]
theorem fmF_s {C : Cy} {D : Int → Int → Int} {g i : Int} (hi : 0 ≤ i) : fmF C D g (i + 1).toNat = if (D 3 i = 3 ∧ gah C D i = g) ∧ (fmF C D g i.toNat = -1 ∨ D 9 i < D 9 (fmF C D g i.toNat)) then i else fmF C D g i.toNat := by
  have e : (i + 1).toNat = i.toNat + 1 := by omega
  rw [e]
  show (if (D 3 (i.toNat : Int) = 3 ∧ gah C D (i.toNat : Int) = g) ∧ (fmF C D g i.toNat = -1 ∨ D 9 (i.toNat : Int) < D 9 (fmF C D g i.toNat)) then (i.toNat : Int) else fmF C D g i.toNat) = _
  rw [Int.toNat_of_nonneg hi]
section DAYM2
variable {L : Int → Int} {R F E : Int → Int → Int} {N : Nat} {Q : xQ} {m c l g : Int} {C : Cy} {D : Int → Int → Int}
theorem sM_busyAt (hS : dmS m c C L R F E) (hX : dmM m C D F E) (hw : dWf C D) (hQ : Q (bzF C D g (D 10 1).toNat) (L, R, F, E, N)) : T_X10_busyAt [m, g] (L, R, F, E, N) Q := by
  have hT := es_t hS
  have pm := mt_p hT
  have hn := hw.2.1
  have hn2 := hn.2
  have e38 := ed_38 hX
  simp (disch := omega) only [t_X10_busyAt, ue_X10_busyAt, zLg, zRf, zFq, zEl, zNz, zUf, zUe, zUr, zCe, zSn, gd_0, gd_1, gd_2, gd_3, gd_4, gd_5, gd_6, gd_7, gd_8, gd_9, gd_10, gd_11, gd_12, gd_13, gd_14, gd_15, gd_16, gd_17, gd_18, gd_19, se_0, se_1, se_2, se_3, se_4, se_5, se_6, se_7, se_8, se_9, se_10, se_11, se_12, se_13, se_14, se_15, se_16, se_17, se_18, se_19, e_const, e_load, e_store, e_iinc, e_dup, e_dup2, e_pop, e_iadd, e_isub, e_imul, e_ladd, e_lsub, e_lmul, e_iaddw, e_isubw, e_imulw, e_laddw, e_lsubw, e_lmulw, e_iand, e_ior, e_ishl, e_ishr, e_iushr, e_lcmp, e_imax, e_imin, e_idiv, e_irem, e_ldiv, e_lrem, e_i2l, e_i2b, e_l2i, e_i2c, e_getF, e_getR, e_putF, e_putR, e_putz, e_ald, e_aldR, e_ast, e_astb, e_astz, e_asta, e_len, e_acopy, e_new, e_newa, e_mna, e_this, e_room, e_call0, e_callv0, e_call1, e_callv1, e_inv1, e_invv1, e_call2, e_callv2, e_inv2, e_invv2, e_call3, e_callv3, e_inv3, e_invv3, e_call4, e_callv4, e_inv4, e_invv4, e_call5, e_callv5, e_inv5, e_invv5, e_call6, e_callv6, e_inv6, e_invv6, e_call7, e_callv7, e_inv7, e_invv7, e_call8, e_callv8, e_inv8, e_invv8, e_ret, e_retz, e_retc, e_retb, e_retv, e_skip, e_sco, e_tlen, e_tat, e_iz_eq0, e_iz_eq1, e_iz_ne0, e_iz_ne1, add0, sc_d, sc_t, inI_e, inL_e, up_eq, true_or, or_true, or_false, false_or, and_true, true_and, not_false_eq_true, Int.reduceAdd, Int.reduceSub, Int.reduceMul, Int.reduceNeg]
  unfold L_X10_busyAt_2
  refine lpw (fun n lo st h c s => ∃ i : Int, lo = [m, g, i] ∧ st = [] ∧ h = (L, R, F, E, N) ∧ 0 ≤ i ∧ i ≤ D 10 1 ∧ (n : Int) = D 10 1 - i ∧ bzF C D g i.toNat = -2) ?_ (n := (D 10 1).toNat) ⟨0, rfl, rfl, rfl, by omega, by omega, by omega, rfl⟩
  rintro n k hk lo st h c s ⟨i, rfl, rfl, rfl, hi, hi2, hn1, hz⟩
  by_cases hlt : i < D 10 1
  · have hl := hw.2.2.1 i hi hlt
    have hv := hl.v
    have h48 := hl.2.2.2.2.2.2.2.2
    have r3 : E (m + 6) (9 * i + 2) = D 3 i := ed_r hX 2 i (by omega) (by omega) hi hlt
    have es := bzF_s (C := C) (D := D) (g := g) hi hz
    have skip : ¬ (D 3 i = 4 ∧ gah C D i = g) → k [m, g, i + 1] [] (L, R, F, E, N) c s := fun z => hk (n - 1) _ _ _ _ _ (by omega) ⟨i + 1, rfl, rfl, rfl, by omega, by omega, by omega, by rw [es, if_neg z]⟩
    by_cases h3 : D 3 i = 4
    · have h8 := h48 (Or.inr h3)
      repeat' first
        | exact absurd hc (by decide)
        | with_reducible refine sM_gateNext hS hX hv hn2 hi hlt h8 ?_
        | simp (disch := omega) only [ub_X10_busyAt_36, ue_X10_busyAt, t_X10_busyAt, zLg, zRf, zFq, zEl, zNz, zUf, zUe, zUr, zCe, zSn, gd_0, gd_1, gd_2, gd_3, gd_4, gd_5, gd_6, gd_7, gd_8, gd_9, gd_10, gd_11, gd_12, gd_13, gd_14, gd_15, gd_16, gd_17, gd_18, gd_19, se_0, se_1, se_2, se_3, se_4, se_5, se_6, se_7, se_8, se_9, se_10, se_11, se_12, se_13, se_14, se_15, se_16, se_17, se_18, se_19, e_const, e_load, e_store, e_iinc, e_dup, e_dup2, e_pop, e_iadd, e_isub, e_imul, e_ladd, e_lsub, e_lmul, e_iaddw, e_isubw, e_imulw, e_laddw, e_lsubw, e_lmulw, e_iand, e_ior, e_ishl, e_ishr, e_iushr, e_lcmp, e_imax, e_imin, e_idiv, e_irem, e_ldiv, e_lrem, e_i2l, e_i2b, e_l2i, e_i2c, e_getF, e_getR, e_putF, e_putR, e_putz, e_ald, e_aldR, e_ast, e_astb, e_astz, e_asta, e_len, e_acopy, e_new, e_newa, e_mna, e_this, e_room, e_call0, e_callv0, e_call1, e_callv1, e_inv1, e_invv1, e_call2, e_callv2, e_inv2, e_invv2, e_call3, e_callv3, e_inv3, e_invv3, e_call4, e_callv4, e_inv4, e_invv4, e_call5, e_callv5, e_inv5, e_invv5, e_call6, e_callv6, e_inv6, e_invv6, e_call7, e_callv7, e_inv7, e_invv7, e_call8, e_callv8, e_inv8, e_invv8, e_ret, e_retz, e_retc, e_retb, e_retv, e_skip, e_sco, e_tlen, e_tat, e_iz_eq0, e_iz_eq1, e_iz_ne0, e_iz_ne1, add0, sc_d, sc_t, inI_e, inL_e, up_eq, true_or, or_true, or_false, false_or, and_true, true_and, not_false_eq_true, Int.reduceAdd, Int.reduceSub, Int.reduceMul, Int.reduceNeg, e38, r3, mt_32 hT, mt_l6 hT]
        | with_reducible first | refine izl_lt (fun hc => ?_) (fun hc => ?_) | refine izl_ge (fun hc => ?_) (fun hc => ?_) | refine izl_eq (fun hc => ?_) (fun hc => ?_) | refine ic_ge (fun hc => ?_) (fun hc => ?_) | refine ic_lt (fun hc => ?_) (fun hc => ?_) | refine ic_ne (fun hc => ?_) (fun hc => ?_) | refine ic_eq (fun hc => ?_) (fun hc => ?_) | refine ic_le (fun hc => ?_) (fun hc => ?_) | refine ic_gt (fun hc => ?_) (fun hc => ?_) | refine iz_eq (fun hc => ?_) (fun hc => ?_) | refine iz_ne (fun hc => ?_) (fun hc => ?_) | refine iz_lt (fun hc => ?_) (fun hc => ?_) | refine iz_ge (fun hc => ?_) (fun hc => ?_) | refine iz_gt (fun hc => ?_) (fun hc => ?_) | refine iz_le (fun hc => ?_) (fun hc => ?_) | refine iz_nu (fun hc => ?_) (fun hc => ?_) | refine iz_nn (fun hc => ?_) (fun hc => ?_)
        | omega
        | (exfalso; omega)
      · exact skip (fun w => hc w.2)
      · rw [if_pos ⟨h3, hc⟩] at es
        rw [bzF_fix es (by omega) _ (by omega)] at hQ
        exact hQ
    · repeat' first
        | exact absurd hc (by decide)
        | simp (disch := omega) only [ub_X10_busyAt_36, ue_X10_busyAt, t_X10_busyAt, zLg, zRf, zFq, zEl, zNz, zUf, zUe, zUr, zCe, zSn, gd_0, gd_1, gd_2, gd_3, gd_4, gd_5, gd_6, gd_7, gd_8, gd_9, gd_10, gd_11, gd_12, gd_13, gd_14, gd_15, gd_16, gd_17, gd_18, gd_19, se_0, se_1, se_2, se_3, se_4, se_5, se_6, se_7, se_8, se_9, se_10, se_11, se_12, se_13, se_14, se_15, se_16, se_17, se_18, se_19, e_const, e_load, e_store, e_iinc, e_dup, e_dup2, e_pop, e_iadd, e_isub, e_imul, e_ladd, e_lsub, e_lmul, e_iaddw, e_isubw, e_imulw, e_laddw, e_lsubw, e_lmulw, e_iand, e_ior, e_ishl, e_ishr, e_iushr, e_lcmp, e_imax, e_imin, e_idiv, e_irem, e_ldiv, e_lrem, e_i2l, e_i2b, e_l2i, e_i2c, e_getF, e_getR, e_putF, e_putR, e_putz, e_ald, e_aldR, e_ast, e_astb, e_astz, e_asta, e_len, e_acopy, e_new, e_newa, e_mna, e_this, e_room, e_call0, e_callv0, e_call1, e_callv1, e_inv1, e_invv1, e_call2, e_callv2, e_inv2, e_invv2, e_call3, e_callv3, e_inv3, e_invv3, e_call4, e_callv4, e_inv4, e_invv4, e_call5, e_callv5, e_inv5, e_invv5, e_call6, e_callv6, e_inv6, e_invv6, e_call7, e_callv7, e_inv7, e_invv7, e_call8, e_callv8, e_inv8, e_invv8, e_ret, e_retz, e_retc, e_retb, e_retv, e_skip, e_sco, e_tlen, e_tat, e_iz_eq0, e_iz_eq1, e_iz_ne0, e_iz_ne1, add0, sc_d, sc_t, inI_e, inL_e, up_eq, true_or, or_true, or_false, false_or, and_true, true_and, not_false_eq_true, Int.reduceAdd, Int.reduceSub, Int.reduceMul, Int.reduceNeg, e38, r3, mt_32 hT, mt_l6 hT]
        | with_reducible first | refine izl_lt (fun hc => ?_) (fun hc => ?_) | refine izl_ge (fun hc => ?_) (fun hc => ?_) | refine izl_eq (fun hc => ?_) (fun hc => ?_) | refine ic_ge (fun hc => ?_) (fun hc => ?_) | refine ic_lt (fun hc => ?_) (fun hc => ?_) | refine ic_ne (fun hc => ?_) (fun hc => ?_) | refine ic_eq (fun hc => ?_) (fun hc => ?_) | refine ic_le (fun hc => ?_) (fun hc => ?_) | refine ic_gt (fun hc => ?_) (fun hc => ?_) | refine iz_eq (fun hc => ?_) (fun hc => ?_) | refine iz_ne (fun hc => ?_) (fun hc => ?_) | refine iz_lt (fun hc => ?_) (fun hc => ?_) | refine iz_ge (fun hc => ?_) (fun hc => ?_) | refine iz_gt (fun hc => ?_) (fun hc => ?_) | refine iz_le (fun hc => ?_) (fun hc => ?_) | refine iz_nu (fun hc => ?_) (fun hc => ?_) | refine iz_nn (fun hc => ?_) (fun hc => ?_)
        | omega
        | (exfalso; omega)
      exact skip (fun w => h3 w.1)
  · have hie : i = D 10 1 := by omega
    rw [hie] at hz
    rw [hz] at hQ
    repeat' first
      | exact absurd hc (by decide)
      | simp (disch := omega) only [ub_X10_busyAt_36, ue_X10_busyAt, t_X10_busyAt, zLg, zRf, zFq, zEl, zNz, zUf, zUe, zUr, zCe, zSn, gd_0, gd_1, gd_2, gd_3, gd_4, gd_5, gd_6, gd_7, gd_8, gd_9, gd_10, gd_11, gd_12, gd_13, gd_14, gd_15, gd_16, gd_17, gd_18, gd_19, se_0, se_1, se_2, se_3, se_4, se_5, se_6, se_7, se_8, se_9, se_10, se_11, se_12, se_13, se_14, se_15, se_16, se_17, se_18, se_19, e_const, e_load, e_store, e_iinc, e_dup, e_dup2, e_pop, e_iadd, e_isub, e_imul, e_ladd, e_lsub, e_lmul, e_iaddw, e_isubw, e_imulw, e_laddw, e_lsubw, e_lmulw, e_iand, e_ior, e_ishl, e_ishr, e_iushr, e_lcmp, e_imax, e_imin, e_idiv, e_irem, e_ldiv, e_lrem, e_i2l, e_i2b, e_l2i, e_i2c, e_getF, e_getR, e_putF, e_putR, e_putz, e_ald, e_aldR, e_ast, e_astb, e_astz, e_asta, e_len, e_acopy, e_new, e_newa, e_mna, e_this, e_room, e_call0, e_callv0, e_call1, e_callv1, e_inv1, e_invv1, e_call2, e_callv2, e_inv2, e_invv2, e_call3, e_callv3, e_inv3, e_invv3, e_call4, e_callv4, e_inv4, e_invv4, e_call5, e_callv5, e_inv5, e_invv5, e_call6, e_callv6, e_inv6, e_invv6, e_call7, e_callv7, e_inv7, e_invv7, e_call8, e_callv8, e_inv8, e_invv8, e_ret, e_retz, e_retc, e_retb, e_retv, e_skip, e_sco, e_tlen, e_tat, e_iz_eq0, e_iz_eq1, e_iz_ne0, e_iz_ne1, add0, sc_d, sc_t, inI_e, inL_e, up_eq, true_or, or_true, or_false, false_or, and_true, true_and, not_false_eq_true, Int.reduceAdd, Int.reduceSub, Int.reduceMul, Int.reduceNeg, e38]
      | with_reducible first | refine izl_lt (fun hc => ?_) (fun hc => ?_) | refine izl_ge (fun hc => ?_) (fun hc => ?_) | refine izl_eq (fun hc => ?_) (fun hc => ?_) | refine ic_ge (fun hc => ?_) (fun hc => ?_) | refine ic_lt (fun hc => ?_) (fun hc => ?_) | refine ic_ne (fun hc => ?_) (fun hc => ?_) | refine ic_eq (fun hc => ?_) (fun hc => ?_) | refine ic_le (fun hc => ?_) (fun hc => ?_) | refine ic_gt (fun hc => ?_) (fun hc => ?_) | refine iz_eq (fun hc => ?_) (fun hc => ?_) | refine iz_ne (fun hc => ?_) (fun hc => ?_) | refine iz_lt (fun hc => ?_) (fun hc => ?_) | refine iz_ge (fun hc => ?_) (fun hc => ?_) | refine iz_gt (fun hc => ?_) (fun hc => ?_) | refine iz_le (fun hc => ?_) (fun hc => ?_) | refine iz_nu (fun hc => ?_) (fun hc => ?_) | refine iz_nn (fun hc => ?_) (fun hc => ?_)
      | omega
      | (exfalso; omega)
    all_goals exact hQ
theorem sM_on (hS : dmS m c C L R F E) (hX : dmM m C D F E) (hw : dWf C D) (hQ : Q (onF D g (D 10 1).toNat) (L, R, F, E, N)) : T_X10_on [m, g] (L, R, F, E, N) Q := by
  have hT := es_t hS
  have pm := mt_p hT
  have hn := hw.2.1
  have e38 := ed_38 hX
  simp (disch := omega) only [t_X10_on, ue_X10_on, zLg, zRf, zFq, zEl, zNz, zUf, zUe, zUr, zCe, zSn, gd_0, gd_1, gd_2, gd_3, gd_4, gd_5, gd_6, gd_7, gd_8, gd_9, gd_10, gd_11, gd_12, gd_13, gd_14, gd_15, gd_16, gd_17, gd_18, gd_19, se_0, se_1, se_2, se_3, se_4, se_5, se_6, se_7, se_8, se_9, se_10, se_11, se_12, se_13, se_14, se_15, se_16, se_17, se_18, se_19, e_const, e_load, e_store, e_iinc, e_dup, e_dup2, e_pop, e_iadd, e_isub, e_imul, e_ladd, e_lsub, e_lmul, e_iaddw, e_isubw, e_imulw, e_laddw, e_lsubw, e_lmulw, e_iand, e_ior, e_ishl, e_ishr, e_iushr, e_lcmp, e_imax, e_imin, e_idiv, e_irem, e_ldiv, e_lrem, e_i2l, e_i2b, e_l2i, e_i2c, e_getF, e_getR, e_putF, e_putR, e_putz, e_ald, e_aldR, e_ast, e_astb, e_astz, e_asta, e_len, e_acopy, e_new, e_newa, e_mna, e_this, e_room, e_call0, e_callv0, e_call1, e_callv1, e_inv1, e_invv1, e_call2, e_callv2, e_inv2, e_invv2, e_call3, e_callv3, e_inv3, e_invv3, e_call4, e_callv4, e_inv4, e_invv4, e_call5, e_callv5, e_inv5, e_invv5, e_call6, e_callv6, e_inv6, e_invv6, e_call7, e_callv7, e_inv7, e_invv7, e_call8, e_callv8, e_inv8, e_invv8, e_ret, e_retz, e_retc, e_retb, e_retv, e_skip, e_sco, e_tlen, e_tat, e_iz_eq0, e_iz_eq1, e_iz_ne0, e_iz_ne1, add0, sc_d, sc_t, inI_e, inL_e, up_eq, true_or, or_true, or_false, false_or, and_true, true_and, not_false_eq_true, Int.reduceAdd, Int.reduceSub, Int.reduceMul, Int.reduceNeg]
  unfold L_X10_on_2
  refine lpw (fun n lo st h c s => ∃ i : Int, lo = [m, g, i] ∧ st = [] ∧ h = (L, R, F, E, N) ∧ 0 ≤ i ∧ i ≤ D 10 1 ∧ (n : Int) = D 10 1 - i ∧ onF D g i.toNat = -2) ?_ (n := (D 10 1).toNat) ⟨0, rfl, rfl, rfl, by omega, by omega, by omega, rfl⟩
  rintro n k hk lo st h c s ⟨i, rfl, rfl, rfl, hi, hi2, hn1, hz⟩
  by_cases hlt : i < D 10 1
  · have r6 : E (m + 6) (9 * i + 5) = D 6 i := ed_r hX 5 i (by omega) (by omega) hi hlt
    have es := onF_s (D := D) (g := g) hi hz
    have skip : ¬ (D 6 i = g) → k [m, g, i + 1] [] (L, R, F, E, N) c s := fun z => hk (n - 1) _ _ _ _ _ (by omega) ⟨i + 1, rfl, rfl, rfl, by omega, by omega, by omega, by rw [es, if_neg z]⟩
    repeat' first
      | exact absurd hc (by decide)
      | simp (disch := omega) only [ue_X10_on, t_X10_on, zLg, zRf, zFq, zEl, zNz, zUf, zUe, zUr, zCe, zSn, gd_0, gd_1, gd_2, gd_3, gd_4, gd_5, gd_6, gd_7, gd_8, gd_9, gd_10, gd_11, gd_12, gd_13, gd_14, gd_15, gd_16, gd_17, gd_18, gd_19, se_0, se_1, se_2, se_3, se_4, se_5, se_6, se_7, se_8, se_9, se_10, se_11, se_12, se_13, se_14, se_15, se_16, se_17, se_18, se_19, e_const, e_load, e_store, e_iinc, e_dup, e_dup2, e_pop, e_iadd, e_isub, e_imul, e_ladd, e_lsub, e_lmul, e_iaddw, e_isubw, e_imulw, e_laddw, e_lsubw, e_lmulw, e_iand, e_ior, e_ishl, e_ishr, e_iushr, e_lcmp, e_imax, e_imin, e_idiv, e_irem, e_ldiv, e_lrem, e_i2l, e_i2b, e_l2i, e_i2c, e_getF, e_getR, e_putF, e_putR, e_putz, e_ald, e_aldR, e_ast, e_astb, e_astz, e_asta, e_len, e_acopy, e_new, e_newa, e_mna, e_this, e_room, e_call0, e_callv0, e_call1, e_callv1, e_inv1, e_invv1, e_call2, e_callv2, e_inv2, e_invv2, e_call3, e_callv3, e_inv3, e_invv3, e_call4, e_callv4, e_inv4, e_invv4, e_call5, e_callv5, e_inv5, e_invv5, e_call6, e_callv6, e_inv6, e_invv6, e_call7, e_callv7, e_inv7, e_invv7, e_call8, e_callv8, e_inv8, e_invv8, e_ret, e_retz, e_retc, e_retb, e_retv, e_skip, e_sco, e_tlen, e_tat, e_iz_eq0, e_iz_eq1, e_iz_ne0, e_iz_ne1, add0, sc_d, sc_t, inI_e, inL_e, up_eq, true_or, or_true, or_false, false_or, and_true, true_and, not_false_eq_true, Int.reduceAdd, Int.reduceSub, Int.reduceMul, Int.reduceNeg, e38, r6, mt_32 hT, mt_l6 hT]
      | with_reducible first | refine izl_lt (fun hc => ?_) (fun hc => ?_) | refine izl_ge (fun hc => ?_) (fun hc => ?_) | refine izl_eq (fun hc => ?_) (fun hc => ?_) | refine ic_ge (fun hc => ?_) (fun hc => ?_) | refine ic_lt (fun hc => ?_) (fun hc => ?_) | refine ic_ne (fun hc => ?_) (fun hc => ?_) | refine ic_eq (fun hc => ?_) (fun hc => ?_) | refine ic_le (fun hc => ?_) (fun hc => ?_) | refine ic_gt (fun hc => ?_) (fun hc => ?_) | refine iz_eq (fun hc => ?_) (fun hc => ?_) | refine iz_ne (fun hc => ?_) (fun hc => ?_) | refine iz_lt (fun hc => ?_) (fun hc => ?_) | refine iz_ge (fun hc => ?_) (fun hc => ?_) | refine iz_gt (fun hc => ?_) (fun hc => ?_) | refine iz_le (fun hc => ?_) (fun hc => ?_) | refine iz_nu (fun hc => ?_) (fun hc => ?_) | refine iz_nn (fun hc => ?_) (fun hc => ?_)
      | omega
      | (exfalso; omega)
    · exact skip hc
    · rw [if_pos hc] at es
      rw [onF_fix es (by omega) _ (by omega)] at hQ
      exact hQ
  · have hie : i = D 10 1 := by omega
    rw [hie] at hz
    rw [hz] at hQ
    repeat' first
      | exact absurd hc (by decide)
      | simp (disch := omega) only [ue_X10_on, t_X10_on, zLg, zRf, zFq, zEl, zNz, zUf, zUe, zUr, zCe, zSn, gd_0, gd_1, gd_2, gd_3, gd_4, gd_5, gd_6, gd_7, gd_8, gd_9, gd_10, gd_11, gd_12, gd_13, gd_14, gd_15, gd_16, gd_17, gd_18, gd_19, se_0, se_1, se_2, se_3, se_4, se_5, se_6, se_7, se_8, se_9, se_10, se_11, se_12, se_13, se_14, se_15, se_16, se_17, se_18, se_19, e_const, e_load, e_store, e_iinc, e_dup, e_dup2, e_pop, e_iadd, e_isub, e_imul, e_ladd, e_lsub, e_lmul, e_iaddw, e_isubw, e_imulw, e_laddw, e_lsubw, e_lmulw, e_iand, e_ior, e_ishl, e_ishr, e_iushr, e_lcmp, e_imax, e_imin, e_idiv, e_irem, e_ldiv, e_lrem, e_i2l, e_i2b, e_l2i, e_i2c, e_getF, e_getR, e_putF, e_putR, e_putz, e_ald, e_aldR, e_ast, e_astb, e_astz, e_asta, e_len, e_acopy, e_new, e_newa, e_mna, e_this, e_room, e_call0, e_callv0, e_call1, e_callv1, e_inv1, e_invv1, e_call2, e_callv2, e_inv2, e_invv2, e_call3, e_callv3, e_inv3, e_invv3, e_call4, e_callv4, e_inv4, e_invv4, e_call5, e_callv5, e_inv5, e_invv5, e_call6, e_callv6, e_inv6, e_invv6, e_call7, e_callv7, e_inv7, e_invv7, e_call8, e_callv8, e_inv8, e_invv8, e_ret, e_retz, e_retc, e_retb, e_retv, e_skip, e_sco, e_tlen, e_tat, e_iz_eq0, e_iz_eq1, e_iz_ne0, e_iz_ne1, add0, sc_d, sc_t, inI_e, inL_e, up_eq, true_or, or_true, or_false, false_or, and_true, true_and, not_false_eq_true, Int.reduceAdd, Int.reduceSub, Int.reduceMul, Int.reduceNeg, e38]
      | with_reducible first | refine izl_lt (fun hc => ?_) (fun hc => ?_) | refine izl_ge (fun hc => ?_) (fun hc => ?_) | refine izl_eq (fun hc => ?_) (fun hc => ?_) | refine ic_ge (fun hc => ?_) (fun hc => ?_) | refine ic_lt (fun hc => ?_) (fun hc => ?_) | refine ic_ne (fun hc => ?_) (fun hc => ?_) | refine ic_eq (fun hc => ?_) (fun hc => ?_) | refine ic_le (fun hc => ?_) (fun hc => ?_) | refine ic_gt (fun hc => ?_) (fun hc => ?_) | refine iz_eq (fun hc => ?_) (fun hc => ?_) | refine iz_ne (fun hc => ?_) (fun hc => ?_) | refine iz_lt (fun hc => ?_) (fun hc => ?_) | refine iz_ge (fun hc => ?_) (fun hc => ?_) | refine iz_gt (fun hc => ?_) (fun hc => ?_) | refine iz_le (fun hc => ?_) (fun hc => ?_) | refine iz_nu (fun hc => ?_) (fun hc => ?_) | refine iz_nn (fun hc => ?_) (fun hc => ?_)
      | omega
      | (exfalso; omega)
    all_goals exact hQ
/-- what a gate has counted -/
theorem dm_ct {m : Int} {C : Cy} {D F E : Int → Int → Int} (h : dmM m C D F E) (w b l v : Int) (hb : w = 11 ∧ b = 648 ∨ w = 12 ∧ b = 659) (hn : D 10 1 ≤ 72) (l0 : 0 ≤ l) (l1 : l < 11) : dmM m C (up D w l v) F (up E (m + 6) (b + l) v) := by
  refine ⟨by rw [up_ne (by omega)]; exact ed_38 h, by rw [up_ne (by omega), up_ne (by omega)]; exact ed_h h, fun f' l' a b x y => ?_, fun q a b => ?_, fun l' a b => ?_⟩
  · rw [up_ne (by omega)] at y
    have cb := cl_b f'
    rw [up_ne (by omega), up_ne (by omega)]
    exact ed_r h f' l' a b x y
  · have t := ed_t h q a b
    rcases hb with ⟨rfl, rfl⟩ | ⟨rfl, rfl⟩
    · by_cases z : q = l
      · rw [z, up_eq, up_eq, up_ne (by omega), up_ne (by omega)]
        rw [z] at t
        exact ⟨rfl, t.2⟩
      · rw [up_ne (by omega), up_ne (by omega), up_ne (by omega), up_ne (by omega)]
        exact t
    · by_cases z : q = l
      · rw [z, up_eq, up_eq, up_ne (by omega), up_ne (by omega)]
        rw [z] at t
        exact ⟨t.1, rfl⟩
      · rw [up_ne (by omega), up_ne (by omega), up_ne (by omega), up_ne (by omega)]
        exact t
  · rw [up_ne (by omega)] at b
    rw [up_ne (by omega), up_ne (by omega), up_ne (by omega)]
    exact ed_o h l' a b
theorem sM_opens (hS : dmS m c C L R F E) (hX : dmM m C D F E) (hw : dWf C D) {K : Int} (hK : dK D K) (hK2 : K ≤ 1000000) (g0 : 0 ≤ g) (g1 : g < C 0 1 0) (hQ : ∀ E' : Int → Int → Int, dmM m C (opD C D g) F E' → frW m E E' → Q 0 (L, R, F, E', N)) : T_X10_opens [m, g] (L, R, F, E, N) Q := by
  have hT := es_t hS
  have hM := es_m hS
  have hW := es_w hS
  have pm := mt_p hT
  have hn := hw.2.1
  have hn2 := hn.2
  have b1 := cw_1 hW
  have e38 := ed_38 hX
  have eo : opD C D g = if bzF C D g (D 10 1).toNat ≠ -2 ∨ fmF C D g (D 10 1).toNat = -1 then D else up (up (up (up D 3 (fmF C D g (D 10 1).toNat) 4) 4 (fmF C D g (D 10 1).toNat) (hrsP C (thO C (D 0 (fmF C D g (D 10 1).toNat))) g)) 11 g (D 11 g + C 2 g 5)) 12 g (D 12 g + hrsP C (thO C (D 0 (fmF C D g (D 10 1).toNat))) g * C 2 g 4) := rfl
  repeat' first
    | exact absurd hc (by decide)
    | with_reducible refine sM_busyAt hS hX hw ?_
    | simp (disch := omega) only [t_X10_opens, ue_X10_opens, zLg, zRf, zFq, zEl, zNz, zUf, zUe, zUr, zCe, zSn, gd_0, gd_1, gd_2, gd_3, gd_4, gd_5, gd_6, gd_7, gd_8, gd_9, gd_10, gd_11, gd_12, gd_13, gd_14, gd_15, gd_16, gd_17, gd_18, gd_19, se_0, se_1, se_2, se_3, se_4, se_5, se_6, se_7, se_8, se_9, se_10, se_11, se_12, se_13, se_14, se_15, se_16, se_17, se_18, se_19, e_const, e_load, e_store, e_iinc, e_dup, e_dup2, e_pop, e_iadd, e_isub, e_imul, e_ladd, e_lsub, e_lmul, e_iaddw, e_isubw, e_imulw, e_laddw, e_lsubw, e_lmulw, e_iand, e_ior, e_ishl, e_ishr, e_iushr, e_lcmp, e_imax, e_imin, e_idiv, e_irem, e_ldiv, e_lrem, e_i2l, e_i2b, e_l2i, e_i2c, e_getF, e_getR, e_putF, e_putR, e_putz, e_ald, e_aldR, e_ast, e_astb, e_astz, e_asta, e_len, e_acopy, e_new, e_newa, e_mna, e_this, e_room, e_call0, e_callv0, e_call1, e_callv1, e_inv1, e_invv1, e_call2, e_callv2, e_inv2, e_invv2, e_call3, e_callv3, e_inv3, e_invv3, e_call4, e_callv4, e_inv4, e_invv4, e_call5, e_callv5, e_inv5, e_invv5, e_call6, e_callv6, e_inv6, e_invv6, e_call7, e_callv7, e_inv7, e_invv7, e_call8, e_callv8, e_inv8, e_invv8, e_ret, e_retz, e_retc, e_retb, e_retv, e_skip, e_sco, e_tlen, e_tat, e_iz_eq0, e_iz_eq1, e_iz_ne0, e_iz_ne1, add0, sc_d, sc_t, inI_e, inL_e, up_eq, true_or, or_true, or_false, false_or, and_true, true_and, not_false_eq_true, Int.reduceAdd, Int.reduceSub, Int.reduceMul, Int.reduceNeg]
    | with_reducible first | refine izl_lt (fun hc => ?_) (fun hc => ?_) | refine izl_ge (fun hc => ?_) (fun hc => ?_) | refine izl_eq (fun hc => ?_) (fun hc => ?_) | refine ic_ge (fun hc => ?_) (fun hc => ?_) | refine ic_lt (fun hc => ?_) (fun hc => ?_) | refine ic_ne (fun hc => ?_) (fun hc => ?_) | refine ic_eq (fun hc => ?_) (fun hc => ?_) | refine ic_le (fun hc => ?_) (fun hc => ?_) | refine ic_gt (fun hc => ?_) (fun hc => ?_) | refine iz_eq (fun hc => ?_) (fun hc => ?_) | refine iz_ne (fun hc => ?_) (fun hc => ?_) | refine iz_lt (fun hc => ?_) (fun hc => ?_) | refine iz_ge (fun hc => ?_) (fun hc => ?_) | refine iz_gt (fun hc => ?_) (fun hc => ?_) | refine iz_le (fun hc => ?_) (fun hc => ?_) | refine iz_nu (fun hc => ?_) (fun hc => ?_) | refine iz_nn (fun hc => ?_) (fun hc => ?_)
    | omega
    | (exfalso; omega)
  · unfold L_X10_opens_15
    refine lpw (fun n lo st h c s => ∃ i : Int, lo = [m, g, fmF C D g i.toNat, i] ∧ st = [] ∧ h = (L, R, F, E, N) ∧ 0 ≤ i ∧ i ≤ D 10 1 ∧ (n : Int) = D 10 1 - i) ?_ (n := (D 10 1).toNat) ⟨0, rfl, rfl, rfl, by omega, by omega, by omega⟩
    rintro n k hk lo st h c s ⟨i, rfl, rfl, rfl, hi, hi2, hn1⟩
    have fs := fm_spec C D g i.toNat
    by_cases hlt : i < D 10 1
    · have hl := hw.2.2.1 i hi hlt
      have hv := hl.v
      have h48 := hl.2.2.2.2.2.2.2.2
      have r3 : E (m + 6) (9 * i + 2) = D 3 i := ed_r hX 2 i (by omega) (by omega) hi hlt
      have r9 : E (m + 6) (9 * i + 7) = D 9 i := ed_r hX 7 i (by omega) (by omega) hi hlt
      have es := fmF_s (C := C) (D := D) (g := g) hi
      have skip : ¬ ((D 3 i = 3 ∧ gah C D i = g) ∧ (fmF C D g i.toNat = -1 ∨ D 9 i < D 9 (fmF C D g i.toNat))) → k [m, g, fmF C D g i.toNat, i + 1] [] (L, R, F, E, N) c s := fun z => by
        rw [if_neg z] at es
        exact hk (n - 1) _ _ _ _ _ (by omega) ⟨i + 1, by rw [es], rfl, rfl, by omega, by omega, by omega⟩
      have take : ((D 3 i = 3 ∧ gah C D i = g) ∧ (fmF C D g i.toNat = -1 ∨ D 9 i < D 9 (fmF C D g i.toNat))) → k [m, g, i, i + 1] [] (L, R, F, E, N) c s := fun z => by
        rw [if_pos z] at es
        exact hk (n - 1) _ _ _ _ _ (by omega) ⟨i + 1, by rw [es], rfl, rfl, by omega, by omega, by omega⟩
      by_cases h3 : D 3 i = 3
      · have h8 := h48 (Or.inl h3)
        have r9f : fmF C D g i.toNat ≠ -1 → E (m + 6) (9 * fmF C D g i.toNat + 7) = D 9 (fmF C D g i.toNat) := fun w => ed_r hX 7 _ (by omega) (by omega) (by omega) (by omega)
        generalize fmF C D g i.toNat = f at *
        by_cases hf1 : f = -1
        · repeat' first
            | exact absurd hc (by decide)
            | with_reducible refine sM_gateNext hS hX hv hn2 hi hlt h8 ?_
            | simp (disch := omega) only [ub_X10_opens_81, ub_X10_opens_79, ue_X10_opens, t_X10_opens, zLg, zRf, zFq, zEl, zNz, zUf, zUe, zUr, zCe, zSn, gd_0, gd_1, gd_2, gd_3, gd_4, gd_5, gd_6, gd_7, gd_8, gd_9, gd_10, gd_11, gd_12, gd_13, gd_14, gd_15, gd_16, gd_17, gd_18, gd_19, se_0, se_1, se_2, se_3, se_4, se_5, se_6, se_7, se_8, se_9, se_10, se_11, se_12, se_13, se_14, se_15, se_16, se_17, se_18, se_19, e_const, e_load, e_store, e_iinc, e_dup, e_dup2, e_pop, e_iadd, e_isub, e_imul, e_ladd, e_lsub, e_lmul, e_iaddw, e_isubw, e_imulw, e_laddw, e_lsubw, e_lmulw, e_iand, e_ior, e_ishl, e_ishr, e_iushr, e_lcmp, e_imax, e_imin, e_idiv, e_irem, e_ldiv, e_lrem, e_i2l, e_i2b, e_l2i, e_i2c, e_getF, e_getR, e_putF, e_putR, e_putz, e_ald, e_aldR, e_ast, e_astb, e_astz, e_asta, e_len, e_acopy, e_new, e_newa, e_mna, e_this, e_room, e_call0, e_callv0, e_call1, e_callv1, e_inv1, e_invv1, e_call2, e_callv2, e_inv2, e_invv2, e_call3, e_callv3, e_inv3, e_invv3, e_call4, e_callv4, e_inv4, e_invv4, e_call5, e_callv5, e_inv5, e_invv5, e_call6, e_callv6, e_inv6, e_invv6, e_call7, e_callv7, e_inv7, e_invv7, e_call8, e_callv8, e_inv8, e_invv8, e_ret, e_retz, e_retc, e_retb, e_retv, e_skip, e_sco, e_tlen, e_tat, e_iz_eq0, e_iz_eq1, e_iz_ne0, e_iz_ne1, add0, sc_d, sc_t, inI_e, inL_e, up_eq, true_or, or_true, or_false, false_or, and_true, true_and, not_false_eq_true, Int.reduceAdd, Int.reduceSub, Int.reduceMul, Int.reduceNeg, e38, r3, mt_32 hT, mt_l6 hT]
            | with_reducible first | refine izl_lt (fun hc => ?_) (fun hc => ?_) | refine izl_ge (fun hc => ?_) (fun hc => ?_) | refine izl_eq (fun hc => ?_) (fun hc => ?_) | refine ic_ge (fun hc => ?_) (fun hc => ?_) | refine ic_lt (fun hc => ?_) (fun hc => ?_) | refine ic_ne (fun hc => ?_) (fun hc => ?_) | refine ic_eq (fun hc => ?_) (fun hc => ?_) | refine ic_le (fun hc => ?_) (fun hc => ?_) | refine ic_gt (fun hc => ?_) (fun hc => ?_) | refine iz_eq (fun hc => ?_) (fun hc => ?_) | refine iz_ne (fun hc => ?_) (fun hc => ?_) | refine iz_lt (fun hc => ?_) (fun hc => ?_) | refine iz_ge (fun hc => ?_) (fun hc => ?_) | refine iz_gt (fun hc => ?_) (fun hc => ?_) | refine iz_le (fun hc => ?_) (fun hc => ?_) | refine iz_nu (fun hc => ?_) (fun hc => ?_) | refine iz_nn (fun hc => ?_) (fun hc => ?_)
            | omega
            | (exfalso; omega)
          · exact skip (fun w => hc w.1.2)
          · exact take ⟨⟨h3, by omega⟩, Or.inl hf1⟩
        · have r9f := r9f hf1
          repeat' first
            | exact absurd hc (by decide)
            | with_reducible refine sM_gateNext hS hX hv hn2 hi hlt h8 ?_
            | simp (disch := omega) only [ub_X10_opens_81, ub_X10_opens_79, ue_X10_opens, t_X10_opens, zLg, zRf, zFq, zEl, zNz, zUf, zUe, zUr, zCe, zSn, gd_0, gd_1, gd_2, gd_3, gd_4, gd_5, gd_6, gd_7, gd_8, gd_9, gd_10, gd_11, gd_12, gd_13, gd_14, gd_15, gd_16, gd_17, gd_18, gd_19, se_0, se_1, se_2, se_3, se_4, se_5, se_6, se_7, se_8, se_9, se_10, se_11, se_12, se_13, se_14, se_15, se_16, se_17, se_18, se_19, e_const, e_load, e_store, e_iinc, e_dup, e_dup2, e_pop, e_iadd, e_isub, e_imul, e_ladd, e_lsub, e_lmul, e_iaddw, e_isubw, e_imulw, e_laddw, e_lsubw, e_lmulw, e_iand, e_ior, e_ishl, e_ishr, e_iushr, e_lcmp, e_imax, e_imin, e_idiv, e_irem, e_ldiv, e_lrem, e_i2l, e_i2b, e_l2i, e_i2c, e_getF, e_getR, e_putF, e_putR, e_putz, e_ald, e_aldR, e_ast, e_astb, e_astz, e_asta, e_len, e_acopy, e_new, e_newa, e_mna, e_this, e_room, e_call0, e_callv0, e_call1, e_callv1, e_inv1, e_invv1, e_call2, e_callv2, e_inv2, e_invv2, e_call3, e_callv3, e_inv3, e_invv3, e_call4, e_callv4, e_inv4, e_invv4, e_call5, e_callv5, e_inv5, e_invv5, e_call6, e_callv6, e_inv6, e_invv6, e_call7, e_callv7, e_inv7, e_invv7, e_call8, e_callv8, e_inv8, e_invv8, e_ret, e_retz, e_retc, e_retb, e_retv, e_skip, e_sco, e_tlen, e_tat, e_iz_eq0, e_iz_eq1, e_iz_ne0, e_iz_ne1, add0, sc_d, sc_t, inI_e, inL_e, up_eq, true_or, or_true, or_false, false_or, and_true, true_and, not_false_eq_true, Int.reduceAdd, Int.reduceSub, Int.reduceMul, Int.reduceNeg, e38, r3, r9, r9f, mt_32 hT, mt_l6 hT]
            | with_reducible first | refine izl_lt (fun hc => ?_) (fun hc => ?_) | refine izl_ge (fun hc => ?_) (fun hc => ?_) | refine izl_eq (fun hc => ?_) (fun hc => ?_) | refine ic_ge (fun hc => ?_) (fun hc => ?_) | refine ic_lt (fun hc => ?_) (fun hc => ?_) | refine ic_ne (fun hc => ?_) (fun hc => ?_) | refine ic_eq (fun hc => ?_) (fun hc => ?_) | refine ic_le (fun hc => ?_) (fun hc => ?_) | refine ic_gt (fun hc => ?_) (fun hc => ?_) | refine iz_eq (fun hc => ?_) (fun hc => ?_) | refine iz_ne (fun hc => ?_) (fun hc => ?_) | refine iz_lt (fun hc => ?_) (fun hc => ?_) | refine iz_ge (fun hc => ?_) (fun hc => ?_) | refine iz_gt (fun hc => ?_) (fun hc => ?_) | refine iz_le (fun hc => ?_) (fun hc => ?_) | refine iz_nu (fun hc => ?_) (fun hc => ?_) | refine iz_nn (fun hc => ?_) (fun hc => ?_)
            | omega
            | (exfalso; omega)
          all_goals first
            | exact skip (fun w => by obtain ⟨⟨w1, w2⟩, w3⟩ := w; omega)
            | exact take ⟨⟨h3, by omega⟩, Or.inr (by omega)⟩
      · repeat' first
          | exact absurd hc (by decide)
          | simp (disch := omega) only [ub_X10_opens_81, ub_X10_opens_79, ue_X10_opens, t_X10_opens, zLg, zRf, zFq, zEl, zNz, zUf, zUe, zUr, zCe, zSn, gd_0, gd_1, gd_2, gd_3, gd_4, gd_5, gd_6, gd_7, gd_8, gd_9, gd_10, gd_11, gd_12, gd_13, gd_14, gd_15, gd_16, gd_17, gd_18, gd_19, se_0, se_1, se_2, se_3, se_4, se_5, se_6, se_7, se_8, se_9, se_10, se_11, se_12, se_13, se_14, se_15, se_16, se_17, se_18, se_19, e_const, e_load, e_store, e_iinc, e_dup, e_dup2, e_pop, e_iadd, e_isub, e_imul, e_ladd, e_lsub, e_lmul, e_iaddw, e_isubw, e_imulw, e_laddw, e_lsubw, e_lmulw, e_iand, e_ior, e_ishl, e_ishr, e_iushr, e_lcmp, e_imax, e_imin, e_idiv, e_irem, e_ldiv, e_lrem, e_i2l, e_i2b, e_l2i, e_i2c, e_getF, e_getR, e_putF, e_putR, e_putz, e_ald, e_aldR, e_ast, e_astb, e_astz, e_asta, e_len, e_acopy, e_new, e_newa, e_mna, e_this, e_room, e_call0, e_callv0, e_call1, e_callv1, e_inv1, e_invv1, e_call2, e_callv2, e_inv2, e_invv2, e_call3, e_callv3, e_inv3, e_invv3, e_call4, e_callv4, e_inv4, e_invv4, e_call5, e_callv5, e_inv5, e_invv5, e_call6, e_callv6, e_inv6, e_invv6, e_call7, e_callv7, e_inv7, e_invv7, e_call8, e_callv8, e_inv8, e_invv8, e_ret, e_retz, e_retc, e_retb, e_retv, e_skip, e_sco, e_tlen, e_tat, e_iz_eq0, e_iz_eq1, e_iz_ne0, e_iz_ne1, add0, sc_d, sc_t, inI_e, inL_e, up_eq, true_or, or_true, or_false, false_or, and_true, true_and, not_false_eq_true, Int.reduceAdd, Int.reduceSub, Int.reduceMul, Int.reduceNeg, e38, r3, mt_32 hT, mt_l6 hT]
          | with_reducible first | refine izl_lt (fun hc => ?_) (fun hc => ?_) | refine izl_ge (fun hc => ?_) (fun hc => ?_) | refine izl_eq (fun hc => ?_) (fun hc => ?_) | refine ic_ge (fun hc => ?_) (fun hc => ?_) | refine ic_lt (fun hc => ?_) (fun hc => ?_) | refine ic_ne (fun hc => ?_) (fun hc => ?_) | refine ic_eq (fun hc => ?_) (fun hc => ?_) | refine ic_le (fun hc => ?_) (fun hc => ?_) | refine ic_gt (fun hc => ?_) (fun hc => ?_) | refine iz_eq (fun hc => ?_) (fun hc => ?_) | refine iz_ne (fun hc => ?_) (fun hc => ?_) | refine iz_lt (fun hc => ?_) (fun hc => ?_) | refine iz_ge (fun hc => ?_) (fun hc => ?_) | refine iz_gt (fun hc => ?_) (fun hc => ?_) | refine iz_le (fun hc => ?_) (fun hc => ?_) | refine iz_nu (fun hc => ?_) (fun hc => ?_) | refine iz_nn (fun hc => ?_) (fun hc => ?_)
          | omega
          | (exfalso; omega)
        exact skip (fun w => h3 w.1.1)
    · have hie : i = D 10 1 := by omega
      rw [hie] at fs ⊢
      generalize fmF C D g (D 10 1).toNat = f at *
      by_cases hf1 : f = -1
      · rw [if_pos (Or.inr hf1)] at eo
        repeat' first
          | exact absurd hc (by decide)
          | simp (disch := omega) only [ub_X10_opens_81, ub_X10_opens_79, ue_X10_opens, t_X10_opens, zLg, zRf, zFq, zEl, zNz, zUf, zUe, zUr, zCe, zSn, gd_0, gd_1, gd_2, gd_3, gd_4, gd_5, gd_6, gd_7, gd_8, gd_9, gd_10, gd_11, gd_12, gd_13, gd_14, gd_15, gd_16, gd_17, gd_18, gd_19, se_0, se_1, se_2, se_3, se_4, se_5, se_6, se_7, se_8, se_9, se_10, se_11, se_12, se_13, se_14, se_15, se_16, se_17, se_18, se_19, e_const, e_load, e_store, e_iinc, e_dup, e_dup2, e_pop, e_iadd, e_isub, e_imul, e_ladd, e_lsub, e_lmul, e_iaddw, e_isubw, e_imulw, e_laddw, e_lsubw, e_lmulw, e_iand, e_ior, e_ishl, e_ishr, e_iushr, e_lcmp, e_imax, e_imin, e_idiv, e_irem, e_ldiv, e_lrem, e_i2l, e_i2b, e_l2i, e_i2c, e_getF, e_getR, e_putF, e_putR, e_putz, e_ald, e_aldR, e_ast, e_astb, e_astz, e_asta, e_len, e_acopy, e_new, e_newa, e_mna, e_this, e_room, e_call0, e_callv0, e_call1, e_callv1, e_inv1, e_invv1, e_call2, e_callv2, e_inv2, e_invv2, e_call3, e_callv3, e_inv3, e_invv3, e_call4, e_callv4, e_inv4, e_invv4, e_call5, e_callv5, e_inv5, e_invv5, e_call6, e_callv6, e_inv6, e_invv6, e_call7, e_callv7, e_inv7, e_invv7, e_call8, e_callv8, e_inv8, e_invv8, e_ret, e_retz, e_retc, e_retb, e_retv, e_skip, e_sco, e_tlen, e_tat, e_iz_eq0, e_iz_eq1, e_iz_ne0, e_iz_ne1, add0, sc_d, sc_t, inI_e, inL_e, up_eq, true_or, or_true, or_false, false_or, and_true, true_and, not_false_eq_true, Int.reduceAdd, Int.reduceSub, Int.reduceMul, Int.reduceNeg, e38, mt_32 hT, mt_l6 hT]
          | with_reducible first | refine izl_lt (fun hc => ?_) (fun hc => ?_) | refine izl_ge (fun hc => ?_) (fun hc => ?_) | refine izl_eq (fun hc => ?_) (fun hc => ?_) | refine ic_ge (fun hc => ?_) (fun hc => ?_) | refine ic_lt (fun hc => ?_) (fun hc => ?_) | refine ic_ne (fun hc => ?_) (fun hc => ?_) | refine ic_eq (fun hc => ?_) (fun hc => ?_) | refine ic_le (fun hc => ?_) (fun hc => ?_) | refine ic_gt (fun hc => ?_) (fun hc => ?_) | refine iz_eq (fun hc => ?_) (fun hc => ?_) | refine iz_ne (fun hc => ?_) (fun hc => ?_) | refine iz_lt (fun hc => ?_) (fun hc => ?_) | refine iz_ge (fun hc => ?_) (fun hc => ?_) | refine iz_gt (fun hc => ?_) (fun hc => ?_) | refine iz_le (fun hc => ?_) (fun hc => ?_) | refine iz_nu (fun hc => ?_) (fun hc => ?_) | refine iz_nn (fun hc => ?_) (fun hc => ?_)
          | omega
          | (exfalso; omega)
        exact hQ E (by rw [eo]; exact hX) frW.rf
      · rw [if_neg (by omega)] at eo
        have fs := fs.resolve_left (fun w => hf1 w.1)
        have hl := hw.2.2.1 f fs.1 (by omega)
        have ow := (ed_o hX f fs.1 (by omega)).2
        have th := thO_W hW hl.1.1 hl.1.2
        have t3 := tw_3 th
        have g4 := cw_g4 hW g g0 g1
        have g5 := cw_g5 hW g g0 g1
        have hb := hrsB hW th g0 g1
        have tt := ed_t hX g g0 (by omega)
        have tt1 := tt.1
        have tt2 := tt.2
        have kk := hK.1 g g0 (by omega)
        have hX1 := dm_up hX 2 3 f 4 rfl (by omega) (by omega) fs.1 (by omega)
        have hX2 := dm_up hX1 3 4 f (hrsP C (thO C (D 0 f)) g) rfl (by omega) (by omega) fs.1 (by omega)
        have hX3 := dm_ct hX2 11 648 g (D 11 g + C 2 g 5) (by omega) (by simp (disch := omega) only [up_ne]; omega) g0 (by omega)
        have hX4 := dm_ct hX3 12 659 g (D 12 g + hrsP C (thO C (D 0 f)) g * C 2 g 4) (by omega) (by simp (disch := omega) only [up_ne]; omega) g0 (by omega)
        have hf1' : frW m E (up E (m + 6) (9 * f + 2) 4) := frW.up
        have hf2' := hf1'.tr (frW.up (i := 9 * f + 3) (v := hrsP C (thO C (D 0 f)) g))
        have hf3' := hf2'.tr (frW.up (i := 648 + g) (v := D 11 g + C 2 g 5))
        have hf4' := hf3'.tr (frW.up (i := 659 + g) (v := D 12 g + hrsP C (thO C (D 0 f)) g * C 2 g 4))
        have hM2 := es_m (hS.fw hf2')
        have hM3 := es_m (hS.fw hf3')
        have eu : upw (thO C (D 0 f) 3) (C 2 g 4) = hrsP C (thO C (D 0 f)) g := upw_eq (by omega)
        generalize hh : hrsP C (thO C (D 0 f)) g = hr at *
        repeat' first
          | exact absurd hc (by decide)
          | with_reducible refine sM_of hT hM hW g0 g1 ?_ ?_ ?_
          | with_reducible refine sM_of hT hM2 hW g0 g1 ?_ ?_ ?_
          | with_reducible refine sM_of hT hM3 hW g0 g1 ?_ ?_ ?_
          | with_reducible refine sM_upwards ?_ ?_ ?_ ?_ ?_
          | simp (disch := omega) only [ub_X10_opens_81, ub_X10_opens_79, ue_X10_opens, t_X10_opens, zLg, zRf, zFq, zEl, zNz, zUf, zUe, zUr, zCe, zSn, gd_0, gd_1, gd_2, gd_3, gd_4, gd_5, gd_6, gd_7, gd_8, gd_9, gd_10, gd_11, gd_12, gd_13, gd_14, gd_15, gd_16, gd_17, gd_18, gd_19, se_0, se_1, se_2, se_3, se_4, se_5, se_6, se_7, se_8, se_9, se_10, se_11, se_12, se_13, se_14, se_15, se_16, se_17, se_18, se_19, e_const, e_load, e_store, e_iinc, e_dup, e_dup2, e_pop, e_iadd, e_isub, e_imul, e_ladd, e_lsub, e_lmul, e_iaddw, e_isubw, e_imulw, e_laddw, e_lsubw, e_lmulw, e_iand, e_ior, e_ishl, e_ishr, e_iushr, e_lcmp, e_imax, e_imin, e_idiv, e_irem, e_ldiv, e_lrem, e_i2l, e_i2b, e_l2i, e_i2c, e_getF, e_getR, e_putF, e_putR, e_putz, e_ald, e_aldR, e_ast, e_astb, e_astz, e_asta, e_len, e_acopy, e_new, e_newa, e_mna, e_this, e_room, e_call0, e_callv0, e_call1, e_callv1, e_inv1, e_invv1, e_call2, e_callv2, e_inv2, e_invv2, e_call3, e_callv3, e_inv3, e_invv3, e_call4, e_callv4, e_inv4, e_invv4, e_call5, e_callv5, e_inv5, e_invv5, e_call6, e_callv6, e_inv6, e_invv6, e_call7, e_callv7, e_inv7, e_invv7, e_call8, e_callv8, e_inv8, e_invv8, e_ret, e_retz, e_retc, e_retb, e_retv, e_skip, e_sco, e_tlen, e_tat, e_iz_eq0, e_iz_eq1, e_iz_ne0, e_iz_ne1, add0, sc_d, sc_t, inI_e, inL_e, up_eq, true_or, or_true, or_false, false_or, and_true, true_and, not_false_eq_true, Int.reduceAdd, Int.reduceSub, Int.reduceMul, Int.reduceNeg, e38, up_ne, ow, eu, tt1, tt2, mt_32 hT, mt_35 hT, mt_l6 hT, mt_l9 hT]
          | with_reducible first | refine izl_lt (fun hc => ?_) (fun hc => ?_) | refine izl_ge (fun hc => ?_) (fun hc => ?_) | refine izl_eq (fun hc => ?_) (fun hc => ?_) | refine ic_ge (fun hc => ?_) (fun hc => ?_) | refine ic_lt (fun hc => ?_) (fun hc => ?_) | refine ic_ne (fun hc => ?_) (fun hc => ?_) | refine ic_eq (fun hc => ?_) (fun hc => ?_) | refine ic_le (fun hc => ?_) (fun hc => ?_) | refine ic_gt (fun hc => ?_) (fun hc => ?_) | refine iz_eq (fun hc => ?_) (fun hc => ?_) | refine iz_ne (fun hc => ?_) (fun hc => ?_) | refine iz_lt (fun hc => ?_) (fun hc => ?_) | refine iz_ge (fun hc => ?_) (fun hc => ?_) | refine iz_gt (fun hc => ?_) (fun hc => ?_) | refine iz_le (fun hc => ?_) (fun hc => ?_) | refine iz_nu (fun hc => ?_) (fun hc => ?_) | refine iz_nn (fun hc => ?_) (fun hc => ?_)
          | omega
          | (exfalso; omega)
        exact hQ _ (by rw [eo]; exact hX4) hf4'
  · rw [if_pos (Or.inl hc)] at eo
    exact hQ E (by rw [eo]; exact hX) frW.rf
theorem sM_drives (hS : dmS m c C L R F E) (hX : dmM m C D F E) (hw : dWf C D) (h0 : 0 ≤ l) (h1 : l < D 10 1) (hQ : ∀ E' : Int → Int → Int, dmM m C (drD C D l) F E' → frW m E E' → Q 0 (L, R, F, E', N)) : T_X10_drives [m, l] (L, R, F, E, N) Q := by
  have hT := es_t hS
  have hTc := es_c hS
  have hM := es_m hS
  have hW := es_w hS
  have hRc := es_3 hS
  have pm := mt_p hT
  have pc := mc_p hTc
  have b2 := cw_2 hW
  have hn := hw.2.1
  have hn2 := hn.2
  have hl := hw.2.2.1 l h0 h1
  have hv := hl.v
  have a2 := hl.2.2.2.1
  have pb := plah_b hW hl
  have r1 : E (m + 6) (9 * l + 0) = D 1 l := ed_r hX 0 l (by omega) (by omega) h0 h1
  have r2 : E (m + 6) (9 * l + 1) = D 2 l := ed_r hX 1 l (by omega) (by omega) h0 h1
  have r3 : E (m + 6) (9 * l + 2) = D 3 l := ed_r hX 2 l (by omega) (by omega) h0 h1
  have ow := (ed_o hX l h0 h1).2
  have ed : drD C D l = if D 3 l ≠ 1 then D else if D 2 l = plah C D l then arD C D l else if ctF C D l (C 0 2 0).toNat = -1 then D else up (up (up D 6 l (ctF C D l (C 0 2 0).toNat)) 3 l 2) 4 l (rnd (D 2 l) (plah C D l)) := rfl
  by_cases h3 : D 3 l = 1
  · rw [if_neg (fun w => w h3)] at ed
    by_cases hp : D 2 l = plah C D l
    · rw [if_pos hp] at ed
      repeat' first
        | exact absurd hc (by decide)
        | with_reducible refine sM_placeNext hS hX hv hn2 h0 h1 ?_
        | simp (disch := omega) only [ub_X10_drives_147, ue_X10_drives, t_X10_drives, zLg, zRf, zFq, zEl, zNz, zUf, zUe, zUr, zCe, zSn, gd_0, gd_1, gd_2, gd_3, gd_4, gd_5, gd_6, gd_7, gd_8, gd_9, gd_10, gd_11, gd_12, gd_13, gd_14, gd_15, gd_16, gd_17, gd_18, gd_19, se_0, se_1, se_2, se_3, se_4, se_5, se_6, se_7, se_8, se_9, se_10, se_11, se_12, se_13, se_14, se_15, se_16, se_17, se_18, se_19, e_const, e_load, e_store, e_iinc, e_dup, e_dup2, e_pop, e_iadd, e_isub, e_imul, e_ladd, e_lsub, e_lmul, e_iaddw, e_isubw, e_imulw, e_laddw, e_lsubw, e_lmulw, e_iand, e_ior, e_ishl, e_ishr, e_iushr, e_lcmp, e_imax, e_imin, e_idiv, e_irem, e_ldiv, e_lrem, e_i2l, e_i2b, e_l2i, e_i2c, e_getF, e_getR, e_putF, e_putR, e_putz, e_ald, e_aldR, e_ast, e_astb, e_astz, e_asta, e_len, e_acopy, e_new, e_newa, e_mna, e_this, e_room, e_call0, e_callv0, e_call1, e_callv1, e_inv1, e_invv1, e_call2, e_callv2, e_inv2, e_invv2, e_call3, e_callv3, e_inv3, e_invv3, e_call4, e_callv4, e_inv4, e_invv4, e_call5, e_callv5, e_inv5, e_invv5, e_call6, e_callv6, e_inv6, e_invv6, e_call7, e_callv7, e_inv7, e_invv7, e_call8, e_callv8, e_inv8, e_invv8, e_ret, e_retz, e_retc, e_retb, e_retv, e_skip, e_sco, e_tlen, e_tat, e_iz_eq0, e_iz_eq1, e_iz_ne0, e_iz_ne1, add0, sc_d, sc_t, inI_e, inL_e, up_eq, true_or, or_true, or_false, false_or, and_true, true_and, not_false_eq_true, Int.reduceAdd, Int.reduceSub, Int.reduceMul, Int.reduceNeg, r2, r3, mt_32 hT, mt_l6 hT]
        | with_reducible first | refine izl_lt (fun hc => ?_) (fun hc => ?_) | refine izl_ge (fun hc => ?_) (fun hc => ?_) | refine izl_eq (fun hc => ?_) (fun hc => ?_) | refine ic_ge (fun hc => ?_) (fun hc => ?_) | refine ic_lt (fun hc => ?_) (fun hc => ?_) | refine ic_ne (fun hc => ?_) (fun hc => ?_) | refine ic_eq (fun hc => ?_) (fun hc => ?_) | refine ic_le (fun hc => ?_) (fun hc => ?_) | refine ic_gt (fun hc => ?_) (fun hc => ?_) | refine iz_eq (fun hc => ?_) (fun hc => ?_) | refine iz_ne (fun hc => ?_) (fun hc => ?_) | refine iz_lt (fun hc => ?_) (fun hc => ?_) | refine iz_ge (fun hc => ?_) (fun hc => ?_) | refine iz_gt (fun hc => ?_) (fun hc => ?_) | refine iz_le (fun hc => ?_) (fun hc => ?_) | refine iz_nu (fun hc => ?_) (fun hc => ?_) | refine iz_nn (fun hc => ?_) (fun hc => ?_)
        | omega
        | (exfalso; omega)
      refine sM_comes hS hX hv hn2 h0 h1 fun E' q1 q2 => ?_
      exact hQ E' (by rw [ed]; exact q1) q2
    · rw [if_neg hp] at ed
      repeat' first
        | exact absurd hc (by decide)
        | with_reducible refine sM_placeNext hS hX hv hn2 h0 h1 ?_
        | simp (disch := omega) only [t_X10_drives, ue_X10_drives, zLg, zRf, zFq, zEl, zNz, zUf, zUe, zUr, zCe, zSn, gd_0, gd_1, gd_2, gd_3, gd_4, gd_5, gd_6, gd_7, gd_8, gd_9, gd_10, gd_11, gd_12, gd_13, gd_14, gd_15, gd_16, gd_17, gd_18, gd_19, se_0, se_1, se_2, se_3, se_4, se_5, se_6, se_7, se_8, se_9, se_10, se_11, se_12, se_13, se_14, se_15, se_16, se_17, se_18, se_19, e_const, e_load, e_store, e_iinc, e_dup, e_dup2, e_pop, e_iadd, e_isub, e_imul, e_ladd, e_lsub, e_lmul, e_iaddw, e_isubw, e_imulw, e_laddw, e_lsubw, e_lmulw, e_iand, e_ior, e_ishl, e_ishr, e_iushr, e_lcmp, e_imax, e_imin, e_idiv, e_irem, e_ldiv, e_lrem, e_i2l, e_i2b, e_l2i, e_i2c, e_getF, e_getR, e_putF, e_putR, e_putz, e_ald, e_aldR, e_ast, e_astb, e_astz, e_asta, e_len, e_acopy, e_new, e_newa, e_mna, e_this, e_room, e_call0, e_callv0, e_call1, e_callv1, e_inv1, e_invv1, e_call2, e_callv2, e_inv2, e_invv2, e_call3, e_callv3, e_inv3, e_invv3, e_call4, e_callv4, e_inv4, e_invv4, e_call5, e_callv5, e_inv5, e_invv5, e_call6, e_callv6, e_inv6, e_invv6, e_call7, e_callv7, e_inv7, e_invv7, e_call8, e_callv8, e_inv8, e_invv8, e_ret, e_retz, e_retc, e_retb, e_retv, e_skip, e_sco, e_tlen, e_tat, e_iz_eq0, e_iz_eq1, e_iz_ne0, e_iz_ne1, add0, sc_d, sc_t, inI_e, inL_e, up_eq, true_or, or_true, or_false, false_or, and_true, true_and, not_false_eq_true, Int.reduceAdd, Int.reduceSub, Int.reduceMul, Int.reduceNeg, r2, r3, mt_32 hT, mt_l6 hT]
        | with_reducible first | refine izl_lt (fun hc => ?_) (fun hc => ?_) | refine izl_ge (fun hc => ?_) (fun hc => ?_) | refine izl_eq (fun hc => ?_) (fun hc => ?_) | refine ic_ge (fun hc => ?_) (fun hc => ?_) | refine ic_lt (fun hc => ?_) (fun hc => ?_) | refine ic_ne (fun hc => ?_) (fun hc => ?_) | refine ic_eq (fun hc => ?_) (fun hc => ?_) | refine ic_le (fun hc => ?_) (fun hc => ?_) | refine ic_gt (fun hc => ?_) (fun hc => ?_) | refine iz_eq (fun hc => ?_) (fun hc => ?_) | refine iz_ne (fun hc => ?_) (fun hc => ?_) | refine iz_lt (fun hc => ?_) (fun hc => ?_) | refine iz_ge (fun hc => ?_) (fun hc => ?_) | refine iz_gt (fun hc => ?_) (fun hc => ?_) | refine iz_le (fun hc => ?_) (fun hc => ?_) | refine iz_nu (fun hc => ?_) (fun hc => ?_) | refine iz_nn (fun hc => ?_) (fun hc => ?_)
        | omega
        | (exfalso; omega)
      unfold L_X10_drives_42
      refine lpw (fun n lo st h c s => ∃ i : Int, lo = [m, l, 9 * l, i] ∧ st = [] ∧ h = (L, R, F, E, N) ∧ 0 ≤ i ∧ i ≤ C 0 2 0 ∧ (n : Int) = C 0 2 0 - i ∧ ctF C D l i.toNat = -1) ?_ (n := (C 0 2 0).toNat) ⟨0, rfl, rfl, rfl, by omega, by omega, by omega, rfl⟩
      rintro n k hk lo st h c9 s ⟨i, rfl, rfl, rfl, hi, hi2, hn1, hct⟩
      by_cases hlt : i < C 0 2 0
      · have es := ctF_s (C := C) (D := D) (l := l) hi hct
        have skip : ¬ (onF D i (D 10 1).toNat = -2 ∧ C 3 i 0 = D 1 l ∧ thO C (D 0 l) 3 ≤ C 3 i 1) → k [m, l, 9 * l, i + 1] [] (L, R, F, E, N) c9 s := fun z => hk (n - 1) _ _ _ _ _ (by omega) ⟨i + 1, rfl, rfl, rfl, by omega, by omega, by omega, by rw [es, if_neg z]⟩
        have hX1 := dm_up hX 5 6 l i rfl (by omega) (by omega) h0 (by omega)
        have hX2 := dm_up hX1 2 3 l 2 rfl (by omega) (by omega) h0 (by omega)
        have hX3 := dm_up hX2 3 4 l (rnd (D 2 l) (plah C D l)) rfl (by omega) (by omega) h0 (by omega)
        have hf1 : frW m E (up E (m + 6) (9 * l + 5) i) := frW.up
        have hf2 := hf1.tr (frW.up (i := 9 * l + 2) (v := 2))
        have hf3 := hf2.tr (frW.up (i := 9 * l + 3) (v := rnd (D 2 l) (plah C D l)))
        have hS2 := hS.fw hf2
        have hv2 : ldV C (up (up D 6 l i) 3 l 2) l := (hv.up (by omega)).up (by omega)
        have e10 : up (up D 6 l i) 3 l 2 10 1 = D 10 1 := by simp (disch := omega) only [up_ne]
        have ep : plah C (up (up D 6 l i) 3 l 2) l = plah C D l := plah_eq (by simp (disch := omega) only [up_ne]) (by simp (disch := omega) only [up_ne])
        repeat' first
          | exact absurd hc (by decide)
          | with_reducible refine sM_on hS hX hw ?_
          | with_reducible refine sM_placeNext hS2 hX2 hv2 ?_ h0 ?_ ?_
          | with_reducible refine sM_round ?_ ?_ ?_ ?_ ?_
          | simp (disch := omega) only [ub_X10_drives_147, ue_X10_drives, t_X10_drives, zLg, zRf, zFq, zEl, zNz, zUf, zUe, zUr, zCe, zSn, gd_0, gd_1, gd_2, gd_3, gd_4, gd_5, gd_6, gd_7, gd_8, gd_9, gd_10, gd_11, gd_12, gd_13, gd_14, gd_15, gd_16, gd_17, gd_18, gd_19, se_0, se_1, se_2, se_3, se_4, se_5, se_6, se_7, se_8, se_9, se_10, se_11, se_12, se_13, se_14, se_15, se_16, se_17, se_18, se_19, e_const, e_load, e_store, e_iinc, e_dup, e_dup2, e_pop, e_iadd, e_isub, e_imul, e_ladd, e_lsub, e_lmul, e_iaddw, e_isubw, e_imulw, e_laddw, e_lsubw, e_lmulw, e_iand, e_ior, e_ishl, e_ishr, e_iushr, e_lcmp, e_imax, e_imin, e_idiv, e_irem, e_ldiv, e_lrem, e_i2l, e_i2b, e_l2i, e_i2c, e_getF, e_getR, e_putF, e_putR, e_putz, e_ald, e_aldR, e_ast, e_astb, e_astz, e_asta, e_len, e_acopy, e_new, e_newa, e_mna, e_this, e_room, e_call0, e_callv0, e_call1, e_callv1, e_inv1, e_invv1, e_call2, e_callv2, e_inv2, e_invv2, e_call3, e_callv3, e_inv3, e_invv3, e_call4, e_callv4, e_inv4, e_invv4, e_call5, e_callv5, e_inv5, e_invv5, e_call6, e_callv6, e_inv6, e_invv6, e_call7, e_callv7, e_inv7, e_invv7, e_call8, e_callv8, e_inv8, e_invv8, e_ret, e_retz, e_retc, e_retb, e_retv, e_skip, e_sco, e_tlen, e_tat, e_iz_eq0, e_iz_eq1, e_iz_ne0, e_iz_ne1, add0, sc_d, sc_t, inI_e, inL_e, up_eq, true_or, or_true, or_false, false_or, and_true, true_and, not_false_eq_true, Int.reduceAdd, Int.reduceSub, Int.reduceMul, Int.reduceNeg, up_ne, hRc, r1, r2, r3, ow, ep, mm_2 hM, mm_c0 hM, mm_c1 hM, mt_32 hT, mt_35 hT, mt_l6 hT, mt_l9 hT, mc_13 hTc, mc_14 hTc, mc_l8 hTc, mc_l9 hTc]
          | with_reducible first | refine izl_lt (fun hc => ?_) (fun hc => ?_) | refine izl_ge (fun hc => ?_) (fun hc => ?_) | refine izl_eq (fun hc => ?_) (fun hc => ?_) | refine ic_ge (fun hc => ?_) (fun hc => ?_) | refine ic_lt (fun hc => ?_) (fun hc => ?_) | refine ic_ne (fun hc => ?_) (fun hc => ?_) | refine ic_eq (fun hc => ?_) (fun hc => ?_) | refine ic_le (fun hc => ?_) (fun hc => ?_) | refine ic_gt (fun hc => ?_) (fun hc => ?_) | refine iz_eq (fun hc => ?_) (fun hc => ?_) | refine iz_ne (fun hc => ?_) (fun hc => ?_) | refine iz_lt (fun hc => ?_) (fun hc => ?_) | refine iz_ge (fun hc => ?_) (fun hc => ?_) | refine iz_gt (fun hc => ?_) (fun hc => ?_) | refine iz_le (fun hc => ?_) (fun hc => ?_) | refine iz_nu (fun hc => ?_) (fun hc => ?_) | refine iz_nn (fun hc => ?_) (fun hc => ?_)
          | omega
          | (exfalso; omega)
        all_goals first
          | exact skip (fun w => by omega)
          | skip
        rw [if_pos (by omega)] at es
        have ef := ctF_fix es (by omega) (C 0 2 0).toNat (by omega)
        rw [ef, if_neg (by omega)] at ed
        exact hQ _ (by rw [ed]; exact hX3) hf3
      · have hie : i = C 0 2 0 := by omega
        rw [hie] at hct
        rw [if_pos hct] at ed
        repeat' first
          | exact absurd hc (by decide)
          | simp (disch := omega) only [ub_X10_drives_147, ue_X10_drives, t_X10_drives, zLg, zRf, zFq, zEl, zNz, zUf, zUe, zUr, zCe, zSn, gd_0, gd_1, gd_2, gd_3, gd_4, gd_5, gd_6, gd_7, gd_8, gd_9, gd_10, gd_11, gd_12, gd_13, gd_14, gd_15, gd_16, gd_17, gd_18, gd_19, se_0, se_1, se_2, se_3, se_4, se_5, se_6, se_7, se_8, se_9, se_10, se_11, se_12, se_13, se_14, se_15, se_16, se_17, se_18, se_19, e_const, e_load, e_store, e_iinc, e_dup, e_dup2, e_pop, e_iadd, e_isub, e_imul, e_ladd, e_lsub, e_lmul, e_iaddw, e_isubw, e_imulw, e_laddw, e_lsubw, e_lmulw, e_iand, e_ior, e_ishl, e_ishr, e_iushr, e_lcmp, e_imax, e_imin, e_idiv, e_irem, e_ldiv, e_lrem, e_i2l, e_i2b, e_l2i, e_i2c, e_getF, e_getR, e_putF, e_putR, e_putz, e_ald, e_aldR, e_ast, e_astb, e_astz, e_asta, e_len, e_acopy, e_new, e_newa, e_mna, e_this, e_room, e_call0, e_callv0, e_call1, e_callv1, e_inv1, e_invv1, e_call2, e_callv2, e_inv2, e_invv2, e_call3, e_callv3, e_inv3, e_invv3, e_call4, e_callv4, e_inv4, e_invv4, e_call5, e_callv5, e_inv5, e_invv5, e_call6, e_callv6, e_inv6, e_invv6, e_call7, e_callv7, e_inv7, e_invv7, e_call8, e_callv8, e_inv8, e_invv8, e_ret, e_retz, e_retc, e_retb, e_retv, e_skip, e_sco, e_tlen, e_tat, e_iz_eq0, e_iz_eq1, e_iz_ne0, e_iz_ne1, add0, sc_d, sc_t, inI_e, inL_e, up_eq, true_or, or_true, or_false, false_or, and_true, true_and, not_false_eq_true, Int.reduceAdd, Int.reduceSub, Int.reduceMul, Int.reduceNeg, hRc, mm_2 hM]
          | with_reducible first | refine izl_lt (fun hc => ?_) (fun hc => ?_) | refine izl_ge (fun hc => ?_) (fun hc => ?_) | refine izl_eq (fun hc => ?_) (fun hc => ?_) | refine ic_ge (fun hc => ?_) (fun hc => ?_) | refine ic_lt (fun hc => ?_) (fun hc => ?_) | refine ic_ne (fun hc => ?_) (fun hc => ?_) | refine ic_eq (fun hc => ?_) (fun hc => ?_) | refine ic_le (fun hc => ?_) (fun hc => ?_) | refine ic_gt (fun hc => ?_) (fun hc => ?_) | refine iz_eq (fun hc => ?_) (fun hc => ?_) | refine iz_ne (fun hc => ?_) (fun hc => ?_) | refine iz_lt (fun hc => ?_) (fun hc => ?_) | refine iz_ge (fun hc => ?_) (fun hc => ?_) | refine iz_gt (fun hc => ?_) (fun hc => ?_) | refine iz_le (fun hc => ?_) (fun hc => ?_) | refine iz_nu (fun hc => ?_) (fun hc => ?_) | refine iz_nn (fun hc => ?_) (fun hc => ?_)
          | omega
          | (exfalso; omega)
        exact hQ E (by rw [ed]; exact hX) frW.rf
  · rw [if_pos h3] at ed
    repeat' first
      | exact absurd hc (by decide)
      | simp (disch := omega) only [ub_X10_drives_147, ue_X10_drives, t_X10_drives, zLg, zRf, zFq, zEl, zNz, zUf, zUe, zUr, zCe, zSn, gd_0, gd_1, gd_2, gd_3, gd_4, gd_5, gd_6, gd_7, gd_8, gd_9, gd_10, gd_11, gd_12, gd_13, gd_14, gd_15, gd_16, gd_17, gd_18, gd_19, se_0, se_1, se_2, se_3, se_4, se_5, se_6, se_7, se_8, se_9, se_10, se_11, se_12, se_13, se_14, se_15, se_16, se_17, se_18, se_19, e_const, e_load, e_store, e_iinc, e_dup, e_dup2, e_pop, e_iadd, e_isub, e_imul, e_ladd, e_lsub, e_lmul, e_iaddw, e_isubw, e_imulw, e_laddw, e_lsubw, e_lmulw, e_iand, e_ior, e_ishl, e_ishr, e_iushr, e_lcmp, e_imax, e_imin, e_idiv, e_irem, e_ldiv, e_lrem, e_i2l, e_i2b, e_l2i, e_i2c, e_getF, e_getR, e_putF, e_putR, e_putz, e_ald, e_aldR, e_ast, e_astb, e_astz, e_asta, e_len, e_acopy, e_new, e_newa, e_mna, e_this, e_room, e_call0, e_callv0, e_call1, e_callv1, e_inv1, e_invv1, e_call2, e_callv2, e_inv2, e_invv2, e_call3, e_callv3, e_inv3, e_invv3, e_call4, e_callv4, e_inv4, e_invv4, e_call5, e_callv5, e_inv5, e_invv5, e_call6, e_callv6, e_inv6, e_invv6, e_call7, e_callv7, e_inv7, e_invv7, e_call8, e_callv8, e_inv8, e_invv8, e_ret, e_retz, e_retc, e_retb, e_retv, e_skip, e_sco, e_tlen, e_tat, e_iz_eq0, e_iz_eq1, e_iz_ne0, e_iz_ne1, add0, sc_d, sc_t, inI_e, inL_e, up_eq, true_or, or_true, or_false, false_or, and_true, true_and, not_false_eq_true, Int.reduceAdd, Int.reduceSub, Int.reduceMul, Int.reduceNeg, r3, mt_32 hT, mt_l6 hT]
      | with_reducible first | refine izl_lt (fun hc => ?_) (fun hc => ?_) | refine izl_ge (fun hc => ?_) (fun hc => ?_) | refine izl_eq (fun hc => ?_) (fun hc => ?_) | refine ic_ge (fun hc => ?_) (fun hc => ?_) | refine ic_lt (fun hc => ?_) (fun hc => ?_) | refine ic_ne (fun hc => ?_) (fun hc => ?_) | refine ic_eq (fun hc => ?_) (fun hc => ?_) | refine ic_le (fun hc => ?_) (fun hc => ?_) | refine ic_gt (fun hc => ?_) (fun hc => ?_) | refine iz_eq (fun hc => ?_) (fun hc => ?_) | refine iz_ne (fun hc => ?_) (fun hc => ?_) | refine iz_lt (fun hc => ?_) (fun hc => ?_) | refine iz_ge (fun hc => ?_) (fun hc => ?_) | refine iz_gt (fun hc => ?_) (fun hc => ?_) | refine iz_le (fun hc => ?_) (fun hc => ?_) | refine iz_nu (fun hc => ?_) (fun hc => ?_) | refine iz_nn (fun hc => ?_) (fun hc => ?_)
      | omega
      | (exfalso; omega)
    exact hQ E (by rw [ed]; exact hX) frW.rf
end DAYM2

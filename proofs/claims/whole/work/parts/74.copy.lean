/-! ===== days copied; what has been waited ===== -/
theorem cpy_ne {E : Int → Int → Int} {a sp d dp z b j : Int} (h : b ≠ d ∨ j < dp ∨ dp + z ≤ j) : cpy E a sp d dp z b j = E b j := if_neg (by omega)
theorem cpy_in {E : Int → Int → Int} {a d z j : Int} (h0 : 0 ≤ j) (h1 : j < z) : cpy E a 0 d 0 z d j = E a j := by
  have e : cpy E a 0 d 0 z d j = E a (0 + (j - 0)) := if_pos ⟨rfl, by omega, by omega⟩
  rw [e]
  congr 1
  omega
theorem dyT.u {d e v w : Int} {L : Int → Int} {R : Int → Int → Int} (h : dyT e L R) (hd : d ≠ e + 1) : dyT e L (up (up R d 8 v) d 9 w) := ⟨dt_p h, by rw [up_ne (by omega), up_ne (by omega)]; exact dt_2 h, by rw [up_ne (by omega), up_ne (by omega)]; exact dt_3 h, by rw [up_ne (by omega), up_ne (by omega)]; exact dt_4 h, by rw [up_ne (by omega), up_ne (by omega)]; exact dt_5 h, by rw [up_ne (by omega), up_ne (by omega)]; exact dt_6 h, by rw [up_ne (by omega), up_ne (by omega)]; exact dt_7 h, dt_l1 h, dt_l12 h, dt_l13 h, dt_l14 h, dt_l15 h, dt_l16 h, fun w a b => by rw [up_ne (by omega), up_ne (by omega)]; exact dt_r h w a b, dt_lr h⟩
def wsN (D : Int → Int → Int) : Nat → Int
  | 0 => 0
  | n + 1 => wsN D n + D 5 n
theorem wsN_s {D : Int → Int → Int} {i : Int} (h : 0 ≤ i) : wsN D (i + 1).toNat = wsN D i.toNat + D 5 i := by
  have e : (i + 1).toNat = i.toNat + 1 := by omega
  rw [e]
  show wsN D i.toNat + D 5 (i.toNat : Int) = _
  rw [Int.toNat_of_nonneg h]
theorem wsN_b {D : Int → Int → Int} {K : Int} (hK : dK D K) (hK2 : K ≤ 400000) : ∀ n : Nat, (n : Int) ≤ D 10 1 → 0 ≤ wsN D n ∧ wsN D n ≤ 400000 * n := by
  intro n
  induction n with
  | zero => intro _; exact ⟨Int.le_refl _, by show (0 : Int) ≤ _; omega⟩
  | succ n ih =>
    intro h
    have := ih (by omega)
    have k := hK.2 n (by omega) (by omega)
    unfold wsN
    omega
section COPY
variable {L : Int → Int} {R F E : Int → Int → Int} {N : Nat} {Q : xQ} {d e : Int} {C : Cy} {D : Int → Int → Int}
theorem sX_copy (hT : dyT d L R) (hTe : dyT e L R) (hde : e + 17 ≤ d ∨ d + 17 ≤ e) (hX : dyX e C D F E) (h0 : 0 ≤ D 10 1) (h1 : D 10 1 ≤ 72) (hQ : ∀ F' E' : Int → Int → Int, dyX d C D F' E' → frI d (d + 17) F F' → frI d (d + 17) E E' → Q 0 (L, up (up R d 8 (R e 8)) d 9 (R e 9), F', E', N)) : T_X2_copy [d, e] (L, R, F, E, N) Q := by
  have pd := dt_p hT
  have pe := dt_p hTe
  have hT' := hT.u (d := d) (v := R e 8) (w := R e 9) (by omega)
  have hTe' := hTe.u (d := d) (v := R e 8) (w := R e 9) (by omega)
  obtain ⟨x0, x1, hR, hcr, hg, ht⟩ := hX
  simp (disch := omega) only [t_X2_copy, ue_X2_copy, zLg, zRf, zFq, zEl, zNz, zUf, zUe, zUr, zCe, zSn, gd_0, gd_1, gd_2, gd_3, gd_4, gd_5, gd_6, gd_7, gd_8, gd_9, gd_10, gd_11, gd_12, gd_13, gd_14, gd_15, gd_16, gd_17, gd_18, gd_19, se_0, se_1, se_2, se_3, se_4, se_5, se_6, se_7, se_8, se_9, se_10, se_11, se_12, se_13, se_14, se_15, se_16, se_17, se_18, se_19, e_const, e_load, e_store, e_iinc, e_dup, e_dup2, e_pop, e_iadd, e_isub, e_imul, e_ladd, e_lsub, e_lmul, e_iaddw, e_isubw, e_imulw, e_laddw, e_lsubw, e_lmulw, e_iand, e_ior, e_ishl, e_ishr, e_iushr, e_lcmp, e_imax, e_imin, e_idiv, e_irem, e_ldiv, e_lrem, e_i2l, e_i2b, e_l2i, e_i2c, e_getF, e_getR, e_putF, e_putR, e_putz, e_ald, e_aldR, e_ast, e_astb, e_astz, e_asta, e_len, e_acopy, e_new, e_newa, e_mna, e_this, e_room, e_call0, e_callv0, e_call1, e_callv1, e_inv1, e_invv1, e_call2, e_callv2, e_inv2, e_invv2, e_call3, e_callv3, e_inv3, e_invv3, e_call4, e_callv4, e_inv4, e_invv4, e_call5, e_callv5, e_inv5, e_invv5, e_call6, e_callv6, e_inv6, e_invv6, e_call7, e_callv7, e_inv7, e_invv7, e_call8, e_callv8, e_inv8, e_invv8, e_ret, e_retz, e_retc, e_retb, e_retv, e_skip, e_sco, e_tlen, e_tat, e_iz_eq0, e_iz_eq1, e_iz_ne0, e_iz_ne1, add0, sc_d, sc_t, inI_e, inL_e, up_eq, true_or, or_true, or_false, false_or, and_true, true_and, not_false_eq_true, Int.reduceAdd, Int.reduceSub, Int.reduceMul, Int.reduceNeg, up_ne, x0, x1]
  have f0 : up (up F d 0 (D 10 0)) d 1 (D 10 1) d 0 = D 10 0 := by rw [up_ne (by omega), up_eq]
  have f1 : up (up F d 0 (D 10 0)) d 1 (D 10 1) d 1 = D 10 1 := up_eq
  have ff : frI d (d + 17) F (up (up F d 0 (D 10 0)) d 1 (D 10 1)) := (frI.up (by omega) (by omega)).tr (frI.up (by omega) (by omega))
  generalize up (up F d 0 (D 10 0)) d 1 (D 10 1) = F' at *
  generalize up (up R d 8 (R e 8)) d 9 (R e 9) = R' at *
  unfold L_X2_copy_34
  refine lpw (fun n lo st h c s => ∃ (i : Int) (E' : Int → Int → Int), lo = [d, e, i] ∧ st = [] ∧ h = (L, R', F', E', N) ∧ 0 ≤ i ∧ i ≤ 10 ∧ (n : Int) = 10 - i ∧ frI (d + 2) (d + 12) E E' ∧ (∀ w l : Int, 0 ≤ w → w < i → 0 ≤ l → l < D 10 1 → E' (d + 2 + w) l = D w l)) ?_ (n := 10) ⟨0, E, rfl, rfl, rfl, by omega, by omega, by omega, frI.rf, fun w l u v => by omega⟩
  rintro n k hk lo st h c s ⟨i, E', rfl, rfl, rfl, hi, hi2, hn1, hf, hz⟩
  repeat' first
    | exact absurd hc (by decide)
    | simp (disch := omega) only [zLg, zRf, zFq, zEl, zNz, zUf, zUe, zUr, zCe, zSn, gd_0, gd_1, gd_2, gd_3, gd_4, gd_5, gd_6, gd_7, gd_8, gd_9, gd_10, gd_11, gd_12, gd_13, gd_14, gd_15, gd_16, gd_17, gd_18, gd_19, se_0, se_1, se_2, se_3, se_4, se_5, se_6, se_7, se_8, se_9, se_10, se_11, se_12, se_13, se_14, se_15, se_16, se_17, se_18, se_19, e_const, e_load, e_store, e_iinc, e_dup, e_dup2, e_pop, e_iadd, e_isub, e_imul, e_ladd, e_lsub, e_lmul, e_iaddw, e_isubw, e_imulw, e_laddw, e_lsubw, e_lmulw, e_iand, e_ior, e_ishl, e_ishr, e_iushr, e_lcmp, e_imax, e_imin, e_idiv, e_irem, e_ldiv, e_lrem, e_i2l, e_i2b, e_l2i, e_i2c, e_getF, e_getR, e_putF, e_putR, e_putz, e_ald, e_aldR, e_ast, e_astb, e_astz, e_asta, e_len, e_acopy, e_new, e_newa, e_mna, e_this, e_room, e_call0, e_callv0, e_call1, e_callv1, e_inv1, e_invv1, e_call2, e_callv2, e_inv2, e_invv2, e_call3, e_callv3, e_inv3, e_invv3, e_call4, e_callv4, e_inv4, e_invv4, e_call5, e_callv5, e_inv5, e_invv5, e_call6, e_callv6, e_inv6, e_invv6, e_call7, e_callv7, e_inv7, e_invv7, e_call8, e_callv8, e_inv8, e_invv8, e_ret, e_retz, e_retc, e_retb, e_retv, e_skip, e_sco, e_tlen, e_tat, e_iz_eq0, e_iz_eq1, e_iz_ne0, e_iz_ne1, add0, sc_d, sc_t, inI_e, inL_e, up_eq, true_or, or_true, or_false, false_or, and_true, true_and, not_false_eq_true, Int.reduceAdd, Int.reduceSub, Int.reduceMul, Int.reduceNeg, f1, dt_2 hT', dt_l1 hT', dt_r hT', dt_lr hT', dt_2 hTe', dt_l1 hTe', dt_r hTe', dt_lr hTe', dt_3 hT', dt_3 hTe', dt_4 hT', dt_4 hTe', dt_5 hT', dt_5 hTe', dt_6 hT', dt_6 hTe', dt_l12 hT', dt_l12 hTe', dt_l13 hT', dt_l13 hTe', dt_l14 hT', dt_l14 hTe', dt_l15 hT', dt_l15 hTe']
    | with_reducible first | refine izl_lt (fun hc => ?_) (fun hc => ?_) | refine izl_ge (fun hc => ?_) (fun hc => ?_) | refine izl_eq (fun hc => ?_) (fun hc => ?_) | refine ic_ge (fun hc => ?_) (fun hc => ?_) | refine ic_lt (fun hc => ?_) (fun hc => ?_) | refine ic_ne (fun hc => ?_) (fun hc => ?_) | refine ic_eq (fun hc => ?_) (fun hc => ?_) | refine ic_le (fun hc => ?_) (fun hc => ?_) | refine ic_gt (fun hc => ?_) (fun hc => ?_) | refine iz_eq (fun hc => ?_) (fun hc => ?_) | refine iz_ne (fun hc => ?_) (fun hc => ?_) | refine iz_lt (fun hc => ?_) (fun hc => ?_) | refine iz_ge (fun hc => ?_) (fun hc => ?_) | refine iz_gt (fun hc => ?_) (fun hc => ?_) | refine iz_le (fun hc => ?_) (fun hc => ?_) | refine iz_nu (fun hc => ?_) (fun hc => ?_) | refine iz_nn (fun hc => ?_) (fun hc => ?_)
    | omega
    | (exfalso; omega)
  · have hie : i = 10 := by omega
    subst hie
    refine hQ F' _ ⟨f0, f1, fun w l a b x y => ?_, fun c u v => ?_, fun q u v => ?_, fun q u v => ?_⟩ ff (fun b j z => ?_)
    · simp (disch := omega) only [cpy_ne]
      exact hz w l a b x y
    · simp (disch := omega) only [cpy_ne, cpy_in]
      rw [hf _ _ (by omega)]
      exact hcr c u v
    · simp (disch := omega) only [cpy_ne, cpy_in]
      rw [hf _ _ (by omega)]
      exact hg q u v
    · simp (disch := omega) only [cpy_ne, cpy_in]
      rw [hf _ _ (by omega), hf _ _ (by omega)]
      exact ht q u v
    · simp (disch := omega) only [cpy_ne]
      exact hf b j (by omega)
  · refine hk (n - 1) _ _ _ _ _ (by omega) ⟨i + 1, _, rfl, rfl, rfl, by omega, by omega, by omega, hf.tr (fun b j z => cpy_ne (by omega)), fun w l a b x y => ?_⟩
    by_cases z : w = i
    · subst z
      rw [cpy_in x y, hf _ _ (by omega)]
      exact hR w l a (by omega) x y
    · rw [cpy_ne (by omega)]
      exact hz w l a (by omega) x y
theorem sX_allWaits (hT : dyT d L R) (hX : dyX d C D F E) {K : Int} (hK : dK D K) (hK2 : K ≤ 400000) (h0 : 0 ≤ D 10 1) (h1 : D 10 1 ≤ 72) (hQ : Q (wsN D (D 10 1).toNat) (L, R, F, E, N)) : T_X2_allWaits [d] (L, R, F, E, N) Q := by
  have pd := dt_p hT
  obtain ⟨x0, x1, hR, hcr, hg, ht⟩ := hX
  simp (disch := omega) only [t_X2_allWaits, ue_X2_allWaits, zLg, zRf, zFq, zEl, zNz, zUf, zUe, zUr, zCe, zSn, gd_0, gd_1, gd_2, gd_3, gd_4, gd_5, gd_6, gd_7, gd_8, gd_9, gd_10, gd_11, gd_12, gd_13, gd_14, gd_15, gd_16, gd_17, gd_18, gd_19, se_0, se_1, se_2, se_3, se_4, se_5, se_6, se_7, se_8, se_9, se_10, se_11, se_12, se_13, se_14, se_15, se_16, se_17, se_18, se_19, e_const, e_load, e_store, e_iinc, e_dup, e_dup2, e_pop, e_iadd, e_isub, e_imul, e_ladd, e_lsub, e_lmul, e_iaddw, e_isubw, e_imulw, e_laddw, e_lsubw, e_lmulw, e_iand, e_ior, e_ishl, e_ishr, e_iushr, e_lcmp, e_imax, e_imin, e_idiv, e_irem, e_ldiv, e_lrem, e_i2l, e_i2b, e_l2i, e_i2c, e_getF, e_getR, e_putF, e_putR, e_putz, e_ald, e_aldR, e_ast, e_astb, e_astz, e_asta, e_len, e_acopy, e_new, e_newa, e_mna, e_this, e_room, e_call0, e_callv0, e_call1, e_callv1, e_inv1, e_invv1, e_call2, e_callv2, e_inv2, e_invv2, e_call3, e_callv3, e_inv3, e_invv3, e_call4, e_callv4, e_inv4, e_invv4, e_call5, e_callv5, e_inv5, e_invv5, e_call6, e_callv6, e_inv6, e_invv6, e_call7, e_callv7, e_inv7, e_invv7, e_call8, e_callv8, e_inv8, e_invv8, e_ret, e_retz, e_retc, e_retb, e_retv, e_skip, e_sco, e_tlen, e_tat, e_iz_eq0, e_iz_eq1, e_iz_ne0, e_iz_ne1, add0, sc_d, sc_t, inI_e, inL_e, up_eq, true_or, or_true, or_false, false_or, and_true, true_and, not_false_eq_true, Int.reduceAdd, Int.reduceSub, Int.reduceMul, Int.reduceNeg]
  unfold L_X2_allWaits_4
  refine lpw (fun n lo st h c s => ∃ i : Int, lo = [d, wsN D i.toNat, i] ∧ st = [] ∧ h = (L, R, F, E, N) ∧ 0 ≤ i ∧ i ≤ D 10 1 ∧ (n : Int) = D 10 1 - i) ?_ (n := (D 10 1).toNat) ⟨0, rfl, rfl, rfl, by omega, by omega, by omega⟩
  rintro n k hk lo st h c s ⟨i, rfl, rfl, rfl, hi, hi2, hn1⟩
  have b := wsN_b hK hK2 i.toNat (by omega)
  by_cases hlt : i < D 10 1
  · have r5 := hR 5 i (by omega) (by omega) hi hlt
    have k5 := hK.2 i hi hlt
    have es := wsN_s (D := D) hi
    generalize wsN D i.toNat = v at *
    repeat' first
      | exact absurd hc (by decide)
      | simp (disch := omega) only [zLg, zRf, zFq, zEl, zNz, zUf, zUe, zUr, zCe, zSn, gd_0, gd_1, gd_2, gd_3, gd_4, gd_5, gd_6, gd_7, gd_8, gd_9, gd_10, gd_11, gd_12, gd_13, gd_14, gd_15, gd_16, gd_17, gd_18, gd_19, se_0, se_1, se_2, se_3, se_4, se_5, se_6, se_7, se_8, se_9, se_10, se_11, se_12, se_13, se_14, se_15, se_16, se_17, se_18, se_19, e_const, e_load, e_store, e_iinc, e_dup, e_dup2, e_pop, e_iadd, e_isub, e_imul, e_ladd, e_lsub, e_lmul, e_iaddw, e_isubw, e_imulw, e_laddw, e_lsubw, e_lmulw, e_iand, e_ior, e_ishl, e_ishr, e_iushr, e_lcmp, e_imax, e_imin, e_idiv, e_irem, e_ldiv, e_lrem, e_i2l, e_i2b, e_l2i, e_i2c, e_getF, e_getR, e_putF, e_putR, e_putz, e_ald, e_aldR, e_ast, e_astb, e_astz, e_asta, e_len, e_acopy, e_new, e_newa, e_mna, e_this, e_room, e_call0, e_callv0, e_call1, e_callv1, e_inv1, e_invv1, e_call2, e_callv2, e_inv2, e_invv2, e_call3, e_callv3, e_inv3, e_invv3, e_call4, e_callv4, e_inv4, e_invv4, e_call5, e_callv5, e_inv5, e_invv5, e_call6, e_callv6, e_inv6, e_invv6, e_call7, e_callv7, e_inv7, e_invv7, e_call8, e_callv8, e_inv8, e_invv8, e_ret, e_retz, e_retc, e_retb, e_retv, e_skip, e_sco, e_tlen, e_tat, e_iz_eq0, e_iz_eq1, e_iz_ne0, e_iz_ne1, add0, sc_d, sc_t, inI_e, inL_e, up_eq, true_or, or_true, or_false, false_or, and_true, true_and, not_false_eq_true, Int.reduceAdd, Int.reduceSub, Int.reduceMul, Int.reduceNeg, x1, r5, dt_2 hT, dt_l1 hT, dt_r hT, dt_lr hT]
      | with_reducible first | refine izl_lt (fun hc => ?_) (fun hc => ?_) | refine izl_ge (fun hc => ?_) (fun hc => ?_) | refine izl_eq (fun hc => ?_) (fun hc => ?_) | refine ic_ge (fun hc => ?_) (fun hc => ?_) | refine ic_lt (fun hc => ?_) (fun hc => ?_) | refine ic_ne (fun hc => ?_) (fun hc => ?_) | refine ic_eq (fun hc => ?_) (fun hc => ?_) | refine ic_le (fun hc => ?_) (fun hc => ?_) | refine ic_gt (fun hc => ?_) (fun hc => ?_) | refine iz_eq (fun hc => ?_) (fun hc => ?_) | refine iz_ne (fun hc => ?_) (fun hc => ?_) | refine iz_lt (fun hc => ?_) (fun hc => ?_) | refine iz_ge (fun hc => ?_) (fun hc => ?_) | refine iz_gt (fun hc => ?_) (fun hc => ?_) | refine iz_le (fun hc => ?_) (fun hc => ?_) | refine iz_nu (fun hc => ?_) (fun hc => ?_) | refine iz_nn (fun hc => ?_) (fun hc => ?_)
      | omega
      | (exfalso; omega)
    exact hk (n - 1) _ _ _ _ _ (by omega) ⟨i + 1, by rw [es], rfl, rfl, by omega, by omega, by omega⟩
  · have hie : i = D 10 1 := by omega
    rw [hie]
    repeat' first
      | exact absurd hc (by decide)
      | simp (disch := omega) only [zLg, zRf, zFq, zEl, zNz, zUf, zUe, zUr, zCe, zSn, gd_0, gd_1, gd_2, gd_3, gd_4, gd_5, gd_6, gd_7, gd_8, gd_9, gd_10, gd_11, gd_12, gd_13, gd_14, gd_15, gd_16, gd_17, gd_18, gd_19, se_0, se_1, se_2, se_3, se_4, se_5, se_6, se_7, se_8, se_9, se_10, se_11, se_12, se_13, se_14, se_15, se_16, se_17, se_18, se_19, e_const, e_load, e_store, e_iinc, e_dup, e_dup2, e_pop, e_iadd, e_isub, e_imul, e_ladd, e_lsub, e_lmul, e_iaddw, e_isubw, e_imulw, e_laddw, e_lsubw, e_lmulw, e_iand, e_ior, e_ishl, e_ishr, e_iushr, e_lcmp, e_imax, e_imin, e_idiv, e_irem, e_ldiv, e_lrem, e_i2l, e_i2b, e_l2i, e_i2c, e_getF, e_getR, e_putF, e_putR, e_putz, e_ald, e_aldR, e_ast, e_astb, e_astz, e_asta, e_len, e_acopy, e_new, e_newa, e_mna, e_this, e_room, e_call0, e_callv0, e_call1, e_callv1, e_inv1, e_invv1, e_call2, e_callv2, e_inv2, e_invv2, e_call3, e_callv3, e_inv3, e_invv3, e_call4, e_callv4, e_inv4, e_invv4, e_call5, e_callv5, e_inv5, e_invv5, e_call6, e_callv6, e_inv6, e_invv6, e_call7, e_callv7, e_inv7, e_invv7, e_call8, e_callv8, e_inv8, e_invv8, e_ret, e_retz, e_retc, e_retb, e_retv, e_skip, e_sco, e_tlen, e_tat, e_iz_eq0, e_iz_eq1, e_iz_ne0, e_iz_ne1, add0, sc_d, sc_t, inI_e, inL_e, up_eq, true_or, or_true, or_false, false_or, and_true, true_and, not_false_eq_true, Int.reduceAdd, Int.reduceSub, Int.reduceMul, Int.reduceNeg, x1]
      | with_reducible first | refine izl_lt (fun hc => ?_) (fun hc => ?_) | refine izl_ge (fun hc => ?_) (fun hc => ?_) | refine izl_eq (fun hc => ?_) (fun hc => ?_) | refine ic_ge (fun hc => ?_) (fun hc => ?_) | refine ic_lt (fun hc => ?_) (fun hc => ?_) | refine ic_ne (fun hc => ?_) (fun hc => ?_) | refine ic_eq (fun hc => ?_) (fun hc => ?_) | refine ic_le (fun hc => ?_) (fun hc => ?_) | refine ic_gt (fun hc => ?_) (fun hc => ?_) | refine iz_eq (fun hc => ?_) (fun hc => ?_) | refine iz_ne (fun hc => ?_) (fun hc => ?_) | refine iz_lt (fun hc => ?_) (fun hc => ?_) | refine iz_ge (fun hc => ?_) (fun hc => ?_) | refine iz_gt (fun hc => ?_) (fun hc => ?_) | refine iz_le (fun hc => ?_) (fun hc => ?_) | refine iz_nu (fun hc => ?_) (fun hc => ?_) | refine iz_nn (fun hc => ?_) (fun hc => ?_)
      | omega
      | (exfalso; omega)
    all_goals exact hQ
end COPY

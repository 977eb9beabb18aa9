/-! ===== constructors: a city of the class, the reference ===== -/
section INITC
variable {L : Int → Int} {R F E : Int → Int → Int} {N : Nat} {Q : xQ} {t w f r q s d a y A c m x : Int}
theorem x78 {c9 s9 : Nat} (hc : c9 = 40) (hs : s9 = 214) (hN : (N : Int) = a + 41) (pa : 0 ≤ a) (r10 : R a 10 = a + 39) (r11 : R a 11 = a + 40) (l39 : L (a + 39) = 8) (l40 : L (a + 40) = 8) (hQ : ∀ (L' : Int → Int) (R' : Int → Int → Int), (∀ b : Int, b < a + 41 → L' b = L b) → (∀ b j : Int, b < a + 39 → R' b j = R b j) → (∀ g : Int, 0 ≤ g → g < 8 → R' (a + 39) g = a + 41 + 8 * g ∧ R' (a + 40) g = a + 45 + 8 * g ∧ thT (a + 41 + 8 * g) L' R' ∧ thT (a + 45 + 8 * g) L' R') → Q 0 (L', R', F, E, N + 64)) : L_X1_init_78 Q [a, 0] [] (L, R, F, E, N) c9 s9 := by
  unfold L_X1_init_78
  refine lpw (fun nn lo st h c' d => ∃ (k : Nat) (L1 : Int → Int) (R1 : Int → Int → Int), lo = [a, (k : Int)] ∧ st = [] ∧ h = (L1, R1, F, E, N + 8 * k) ∧ k ≤ 8 ∧ nn = 8 - k ∧ c' = 40 + 8 * k ∧ d = 214 + 32 * k ∧ (∀ b : Int, b < a + 41 → L1 b = L b) ∧ (∀ b j : Int, b < a + 39 → R1 b j = R b j) ∧ (∀ g : Int, 0 ≤ g → g < (k : Int) → R1 (a + 39) g = a + 41 + 8 * g ∧ R1 (a + 40) g = a + 45 + 8 * g ∧ thT (a + 41 + 8 * g) L1 R1 ∧ thT (a + 45 + 8 * g) L1 R1)) ?_ (n := 8) ⟨0, L, R, rfl, rfl, rfl, by omega, by omega, by omega, by omega, fun _ _ => rfl, fun _ _ _ => rfl, fun g u v => by omega⟩
  rintro nn kk hkk lo st h c9 s9 ⟨k, L1, R1, rfl, rfl, rfl, k8, hnn, hcc, hss, hL1, hR1, hg1⟩
  have e10 : R1 a 10 = a + 39 := (hR1 _ _ (by omega)).trans r10
  have e11 : R1 a 11 = a + 40 := (hR1 _ _ (by omega)).trans r11
  have e39 : L1 (a + 39) = 8 := (hL1 _ (by omega)).trans l39
  have e40 : L1 (a + 40) = 8 := (hL1 _ (by omega)).trans l40
  by_cases ke : k = 8
  · subst ke
    have ok := hQ L1 R1 hL1 hR1 hg1
    clear hkk hQ hg1
    repeat' first
      | exact absurd hc (by decide)
      | simp (disch := omega) only [zLg, zRf, zFq, zEl, zNz, zUf, zUe, zUr, zCe, zSn, gd_0, gd_1, gd_2, gd_3, gd_4, gd_5, gd_6, gd_7, gd_8, gd_9, gd_10, gd_11, gd_12, gd_13, gd_14, gd_15, gd_16, gd_17, gd_18, gd_19, se_0, se_1, se_2, se_3, se_4, se_5, se_6, se_7, se_8, se_9, se_10, se_11, se_12, se_13, se_14, se_15, se_16, se_17, se_18, se_19, e_const, e_load, e_store, e_iinc, e_dup, e_dup2, e_pop, e_iadd, e_isub, e_imul, e_ladd, e_lsub, e_lmul, e_iaddw, e_isubw, e_imulw, e_laddw, e_lsubw, e_lmulw, e_iand, e_ior, e_ishl, e_ishr, e_iushr, e_lcmp, e_imax, e_imin, e_idiv, e_irem, e_ldiv, e_lrem, e_i2l, e_i2b, e_l2i, e_i2c, e_getF, e_getR, e_putF, e_putR, e_putz, e_ald, e_aldR, e_ast, e_astb, e_astz, e_asta, e_len, e_acopy, e_new, e_newa, e_mna, e_this, e_room, e_call0, e_callv0, e_call1, e_callv1, e_inv1, e_invv1, e_call2, e_callv2, e_inv2, e_invv2, e_call3, e_callv3, e_inv3, e_invv3, e_call4, e_callv4, e_inv4, e_invv4, e_call5, e_callv5, e_inv5, e_invv5, e_call6, e_callv6, e_inv6, e_invv6, e_call7, e_callv7, e_inv7, e_invv7, e_call8, e_callv8, e_inv8, e_invv8, e_ret, e_retz, e_retc, e_retb, e_retv, e_skip, e_sco, e_tlen, e_tat, e_iz_eq0, e_iz_eq1, e_iz_ne0, e_iz_ne1, add0, sc_d, sc_t, inI_e, inL_e, up_eq, true_or, or_true, or_false, false_or, and_true, true_and, not_false_eq_true, Int.reduceAdd, Int.reduceSub, Int.reduceMul, Int.reduceNeg]
      | with_reducible first | refine izl_lt (fun hc => ?_) (fun hc => ?_) | refine izl_ge (fun hc => ?_) (fun hc => ?_) | refine izl_eq (fun hc => ?_) (fun hc => ?_) | refine ic_ge (fun hc => ?_) (fun hc => ?_) | refine ic_lt (fun hc => ?_) (fun hc => ?_) | refine ic_ne (fun hc => ?_) (fun hc => ?_) | refine ic_eq (fun hc => ?_) (fun hc => ?_) | refine ic_le (fun hc => ?_) (fun hc => ?_) | refine ic_gt (fun hc => ?_) (fun hc => ?_) | refine iz_eq (fun hc => ?_) (fun hc => ?_) | refine iz_ne (fun hc => ?_) (fun hc => ?_) | refine iz_lt (fun hc => ?_) (fun hc => ?_) | refine iz_ge (fun hc => ?_) (fun hc => ?_) | refine iz_gt (fun hc => ?_) (fun hc => ?_) | refine iz_le (fun hc => ?_) (fun hc => ?_) | refine iz_nu (fun hc => ?_) (fun hc => ?_) | refine iz_nn (fun hc => ?_) (fun hc => ?_)
      | omega
      | (exfalso; omega)
    all_goals exact ok
  · try simp (disch := omega) only [zLg, zRf, zFq, zEl, zNz, zUf, zUe, zUr, zCe, zSn, gd_0, gd_1, gd_2, gd_3, gd_4, gd_5, gd_6, gd_7, gd_8, gd_9, gd_10, gd_11, gd_12, gd_13, gd_14, gd_15, gd_16, gd_17, gd_18, gd_19, se_0, se_1, se_2, se_3, se_4, se_5, se_6, se_7, se_8, se_9, se_10, se_11, se_12, se_13, se_14, se_15, se_16, se_17, se_18, se_19, e_const, e_load, e_store, e_iinc, e_dup, e_dup2, e_pop, e_iadd, e_isub, e_imul, e_ladd, e_lsub, e_lmul, e_iaddw, e_isubw, e_imulw, e_laddw, e_lsubw, e_lmulw, e_iand, e_ior, e_ishl, e_ishr, e_iushr, e_lcmp, e_imax, e_imin, e_idiv, e_irem, e_ldiv, e_lrem, e_i2l, e_i2b, e_l2i, e_i2c, e_getF, e_getR, e_putF, e_putR, e_putz, e_ald, e_aldR, e_ast, e_astb, e_astz, e_asta, e_len, e_acopy, e_new, e_newa, e_mna, e_this, e_room, e_call0, e_callv0, e_call1, e_callv1, e_inv1, e_invv1, e_call2, e_callv2, e_inv2, e_invv2, e_call3, e_callv3, e_inv3, e_invv3, e_call4, e_callv4, e_inv4, e_invv4, e_call5, e_callv5, e_inv5, e_invv5, e_call6, e_callv6, e_inv6, e_invv6, e_call7, e_callv7, e_inv7, e_invv7, e_call8, e_callv8, e_inv8, e_invv8, e_ret, e_retz, e_retc, e_retb, e_retv, e_skip, e_sco, e_tlen, e_tat, e_iz_eq0, e_iz_eq1, e_iz_ne0, e_iz_ne1, add0, sc_d, sc_t, inI_e, inL_e, up_eq, true_or, or_true, or_false, false_or, and_true, true_and, not_false_eq_true, Int.reduceAdd, Int.reduceSub, Int.reduceMul, Int.reduceNeg, e10]
    refine ic_ge (fun z => by omega) (fun z => ?_)
    try simp (disch := omega) only [zLg, zRf, zFq, zEl, zNz, zUf, zUe, zUr, zCe, zSn, gd_0, gd_1, gd_2, gd_3, gd_4, gd_5, gd_6, gd_7, gd_8, gd_9, gd_10, gd_11, gd_12, gd_13, gd_14, gd_15, gd_16, gd_17, gd_18, gd_19, se_0, se_1, se_2, se_3, se_4, se_5, se_6, se_7, se_8, se_9, se_10, se_11, se_12, se_13, se_14, se_15, se_16, se_17, se_18, se_19, e_const, e_load, e_store, e_iinc, e_dup, e_dup2, e_pop, e_iadd, e_isub, e_imul, e_ladd, e_lsub, e_lmul, e_iaddw, e_isubw, e_imulw, e_laddw, e_lsubw, e_lmulw, e_iand, e_ior, e_ishl, e_ishr, e_iushr, e_lcmp, e_imax, e_imin, e_idiv, e_irem, e_ldiv, e_lrem, e_i2l, e_i2b, e_l2i, e_i2c, e_getF, e_getR, e_putF, e_putR, e_putz, e_ald, e_aldR, e_ast, e_astb, e_astz, e_asta, e_len, e_acopy, e_new, e_newa, e_mna, e_this, e_room, e_call0, e_callv0, e_call1, e_callv1, e_inv1, e_invv1, e_call2, e_callv2, e_inv2, e_invv2, e_call3, e_callv3, e_inv3, e_invv3, e_call4, e_callv4, e_inv4, e_invv4, e_call5, e_callv5, e_inv5, e_invv5, e_call6, e_callv6, e_inv6, e_invv6, e_call7, e_callv7, e_inv7, e_invv7, e_call8, e_callv8, e_inv8, e_invv8, e_ret, e_retz, e_retc, e_retb, e_retv, e_skip, e_sco, e_tlen, e_tat, e_iz_eq0, e_iz_eq1, e_iz_ne0, e_iz_ne1, add0, sc_d, sc_t, inI_e, inL_e, up_eq, true_or, or_true, or_false, false_or, and_true, true_and, not_false_eq_true, Int.reduceAdd, Int.reduceSub, Int.reduceMul, Int.reduceNeg, e10]
    refine sX_newThing (by omega) (by omega) (fun L2 R2 t2 t3 t4 => ?_)
    have s39 : L2 (a + 39) = 8 := (t3 _ (by omega)).trans e39
    have s11 : up R2 (a + 39) (k : Int) ((N + 8 * k : Nat) : Int) a 11 = a + 40 := (up_ne (by omega)).trans ((t4 _ _ (by omega) (by omega)).trans e11)
    try simp (disch := omega) only [zLg, zRf, zFq, zEl, zNz, zUf, zUe, zUr, zCe, zSn, gd_0, gd_1, gd_2, gd_3, gd_4, gd_5, gd_6, gd_7, gd_8, gd_9, gd_10, gd_11, gd_12, gd_13, gd_14, gd_15, gd_16, gd_17, gd_18, gd_19, se_0, se_1, se_2, se_3, se_4, se_5, se_6, se_7, se_8, se_9, se_10, se_11, se_12, se_13, se_14, se_15, se_16, se_17, se_18, se_19, e_const, e_load, e_store, e_iinc, e_dup, e_dup2, e_pop, e_iadd, e_isub, e_imul, e_ladd, e_lsub, e_lmul, e_iaddw, e_isubw, e_imulw, e_laddw, e_lsubw, e_lmulw, e_iand, e_ior, e_ishl, e_ishr, e_iushr, e_lcmp, e_imax, e_imin, e_idiv, e_irem, e_ldiv, e_lrem, e_i2l, e_i2b, e_l2i, e_i2c, e_getF, e_getR, e_putF, e_putR, e_putz, e_ald, e_aldR, e_ast, e_astb, e_astz, e_asta, e_len, e_acopy, e_new, e_newa, e_mna, e_this, e_room, e_call0, e_callv0, e_call1, e_callv1, e_inv1, e_invv1, e_call2, e_callv2, e_inv2, e_invv2, e_call3, e_callv3, e_inv3, e_invv3, e_call4, e_callv4, e_inv4, e_invv4, e_call5, e_callv5, e_inv5, e_invv5, e_call6, e_callv6, e_inv6, e_invv6, e_call7, e_callv7, e_inv7, e_invv7, e_call8, e_callv8, e_inv8, e_invv8, e_ret, e_retz, e_retc, e_retb, e_retv, e_skip, e_sco, e_tlen, e_tat, e_iz_eq0, e_iz_eq1, e_iz_ne0, e_iz_ne1, add0, sc_d, sc_t, inI_e, inL_e, up_eq, true_or, or_true, or_false, false_or, and_true, true_and, not_false_eq_true, Int.reduceAdd, Int.reduceSub, Int.reduceMul, Int.reduceNeg, s39, s11, Nat.add_assoc, Nat.reduceAdd]
    refine sX_newThing (by omega) (by omega) (fun L3 R3 u2 u3 u4 => ?_)
    have s40 : L3 (a + 40) = 8 := (u3 _ (by omega)).trans ((t3 _ (by omega)).trans e40)
    have ok : ∀ R4 : Int → Int → Int, R4 = up R3 (a + 40) (k : Int) ((N + (8 * k + 4) : Nat) : Int) → kk [a, (k : Int) + 1] [] (L3, R4, F, E, N + (8 * k + 8)) (c9 + 8) (s9 + 32) := fun R4 z4 => by
      have f4 : ∀ b j : Int, b ≠ a + 39 → b ≠ a + 40 → b < a + 41 + 8 * k → R4 b j = R1 b j := fun b j v1 v2 v3 => by
        rw [z4, up_ne (by omega), u4 b j (by omega) (by omega), up_ne (by omega)]
        exact t4 b j (by omega) (by omega)
      have f3 : ∀ b : Int, b < a + 41 + 8 * k → L3 b = L1 b := fun b v => (u3 b (by omega)).trans (t3 b (by omega))
      refine hkk (nn - 1) _ _ _ _ _ (by omega) ⟨k + 1, L3, R4, rfl, rfl, rfl, by omega, by omega, by omega, by omega, fun b v => (f3 b (by omega)).trans (hL1 b v), fun b j v => (f4 b j (by omega) (by omega) (by omega)).trans (hR1 b j v), fun g v1 v2 => ?_⟩
      by_cases gk : g = k
      · subst gk
        refine ⟨?_, ?_, ?_, ?_⟩
        · rw [z4, up_ne (by omega), u4 _ _ (by omega) (by omega), up_eq]; omega
        · rw [z4, up_eq]; omega
        · rw [show a + 41 + 8 * (k : Int) = ((N + 8 * k : Nat) : Int) by omega]
          exact (t2.fL (fun b v3 v4 => u3 b (by omega))).fR (fun b j v3 v4 => by rw [z4, up_ne (by omega), u4 b j (by omega) (by omega), up_ne (by omega)])
        · rw [show a + 45 + 8 * (k : Int) = ((N + (8 * k + 4) : Nat) : Int) by omega]
          exact u2.fR (fun b j v3 v4 => by rw [z4, up_ne (by omega)])
      · obtain ⟨y1, y2, y3, y4⟩ := hg1 g v1 (by omega)
        refine ⟨?_, ?_, ?_, ?_⟩
        · rw [z4, up_ne (by omega), u4 _ _ (by omega) (by omega), up_ne (by omega), t4 _ _ (by omega) (by omega)]; exact y1
        · rw [z4, up_ne (by omega), u4 _ _ (by omega) (by omega), up_ne (by omega), t4 _ _ (by omega) (by omega)]; exact y2
        · exact (y3.fL (fun b v3 v4 => f3 b (by omega))).fR (fun b j v3 v4 => f4 b j (by omega) (by omega) (by omega))
        · exact (y4.fL (fun b v3 v4 => f3 b (by omega))).fR (fun b j v3 v4 => f4 b j (by omega) (by omega) (by omega))
    clear hkk hQ hg1
    try simp (disch := omega) only [zLg, zRf, zFq, zEl, zNz, zUf, zUe, zUr, zCe, zSn, gd_0, gd_1, gd_2, gd_3, gd_4, gd_5, gd_6, gd_7, gd_8, gd_9, gd_10, gd_11, gd_12, gd_13, gd_14, gd_15, gd_16, gd_17, gd_18, gd_19, se_0, se_1, se_2, se_3, se_4, se_5, se_6, se_7, se_8, se_9, se_10, se_11, se_12, se_13, se_14, se_15, se_16, se_17, se_18, se_19, e_const, e_load, e_store, e_iinc, e_dup, e_dup2, e_pop, e_iadd, e_isub, e_imul, e_ladd, e_lsub, e_lmul, e_iaddw, e_isubw, e_imulw, e_laddw, e_lsubw, e_lmulw, e_iand, e_ior, e_ishl, e_ishr, e_iushr, e_lcmp, e_imax, e_imin, e_idiv, e_irem, e_ldiv, e_lrem, e_i2l, e_i2b, e_l2i, e_i2c, e_getF, e_getR, e_putF, e_putR, e_putz, e_ald, e_aldR, e_ast, e_astb, e_astz, e_asta, e_len, e_acopy, e_new, e_newa, e_mna, e_this, e_room, e_call0, e_callv0, e_call1, e_callv1, e_inv1, e_invv1, e_call2, e_callv2, e_inv2, e_invv2, e_call3, e_callv3, e_inv3, e_invv3, e_call4, e_callv4, e_inv4, e_invv4, e_call5, e_callv5, e_inv5, e_invv5, e_call6, e_callv6, e_inv6, e_invv6, e_call7, e_callv7, e_inv7, e_invv7, e_call8, e_callv8, e_inv8, e_invv8, e_ret, e_retz, e_retc, e_retb, e_retv, e_skip, e_sco, e_tlen, e_tat, e_iz_eq0, e_iz_eq1, e_iz_ne0, e_iz_ne1, add0, sc_d, sc_t, inI_e, inL_e, up_eq, true_or, or_true, or_false, false_or, and_true, true_and, not_false_eq_true, Int.reduceAdd, Int.reduceSub, Int.reduceMul, Int.reduceNeg, s40, Nat.add_assoc, Nat.reduceAdd]
    exact ok _ rfl
theorem sX_newCity (hN : (N : Int) = a + 1) (pa : 0 ≤ a) (hQ : ∀ (L' : Int → Int) (R' : Int → Int → Int), ctT a L' R' → (∀ b : Int, b ≤ a → L' b = L b) → (∀ b j : Int, b < a → R' b j = R b j) → Q 0 (L', R', F, E, N + 104)) : T_X1_init [a] (L, R, F, E, N) Q := by
  try simp (disch := omega) only [t_X1_init, ue_X1_init, zLg, zRf, zFq, zEl, zNz, zUf, zUe, zUr, zCe, zSn, gd_0, gd_1, gd_2, gd_3, gd_4, gd_5, gd_6, gd_7, gd_8, gd_9, gd_10, gd_11, gd_12, gd_13, gd_14, gd_15, gd_16, gd_17, gd_18, gd_19, se_0, se_1, se_2, se_3, se_4, se_5, se_6, se_7, se_8, se_9, se_10, se_11, se_12, se_13, se_14, se_15, se_16, se_17, se_18, se_19, e_const, e_load, e_store, e_iinc, e_dup, e_dup2, e_pop, e_iadd, e_isub, e_imul, e_ladd, e_lsub, e_lmul, e_iaddw, e_isubw, e_imulw, e_laddw, e_lsubw, e_lmulw, e_iand, e_ior, e_ishl, e_ishr, e_iushr, e_lcmp, e_imax, e_imin, e_idiv, e_irem, e_ldiv, e_lrem, e_i2l, e_i2b, e_l2i, e_i2c, e_getF, e_getR, e_putF, e_putR, e_putz, e_ald, e_aldR, e_ast, e_astb, e_astz, e_asta, e_len, e_acopy, e_new, e_newa, e_mna, e_this, e_room, e_call0, e_callv0, e_call1, e_callv1, e_inv1, e_invv1, e_call2, e_callv2, e_inv2, e_invv2, e_call3, e_callv3, e_inv3, e_invv3, e_call4, e_callv4, e_inv4, e_invv4, e_call5, e_callv5, e_inv5, e_invv5, e_call6, e_callv6, e_inv6, e_invv6, e_call7, e_callv7, e_inv7, e_invv7, e_call8, e_callv8, e_inv8, e_invv8, e_ret, e_retz, e_retc, e_retb, e_retv, e_skip, e_sco, e_tlen, e_tat, e_iz_eq0, e_iz_eq1, e_iz_ne0, e_iz_ne1, add0, sc_d, sc_t, inI_e, inL_e, up_eq, true_or, or_true, or_false, false_or, and_true, true_and, not_false_eq_true, Int.reduceAdd, Int.reduceSub, Int.reduceMul, Int.reduceNeg, zSa, zSm, Nat.add_assoc, Nat.reduceAdd, Int.reduceToNat, Nat.reduceMul]
  refine x78 (by decide) (by decide) (by omega) pa ?_ ?_ ?_ ?_ (fun L' R' a1 a2 a3 => hQ L' R' ?_ ?_ ?_)
  · try simp (disch := omega) only [up_ne, up_eq, us_n, us_e2, umL_i, umL_e, umL_n, umR_e, umR_n]
    try omega
  · try simp (disch := omega) only [up_ne, up_eq, us_n, us_e2, umL_i, umL_e, umL_n, umR_e, umR_n]
    try omega
  · try simp (disch := omega) only [up_ne, up_eq, us_n, us_e2, umL_i, umL_e, umL_n, umR_e, umR_n]
  · try simp (disch := omega) only [up_ne, up_eq, us_n, us_e2, umL_i, umL_e, umL_n, umR_e, umR_n]
  · refine ⟨pa, ?_, ?_, ?_, ?_, ?_, ?_, ?_, ?_, ?_, ?_, ?_, ?_, ?_, ?_, ?_, ?_, ?_, ?_, ?_, ?_, ?_, ?_, fun g u v => (a3 g u v).1, fun g u v => (a3 g u v).2.1, fun g u v => (a3 g u v).2.2.1, fun g u v => (a3 g u v).2.2.2⟩
    all_goals
      try intro g u v
      try simp (disch := omega) only [a1, a2, up_ne, up_eq, us_n, us_e2, umL_i, umL_e, umL_n, umR_e, umR_n]
      try omega
  · intro b z
    try simp (disch := omega) only [a1, us_n, umL_n]
  · intro b j z
    try simp (disch := omega) only [a2, up_ne, umR_n]
theorem sM_new (hN : (N : Int) = m + 1) (pm : 0 ≤ m) (hQ : ∀ (L' : Int → Int) (R' : Int → Int → Int), mtT m L' R' → R' m 3 = R m 3 → (∀ b : Int, b ≤ m → L' b = L b) → (∀ b j : Int, b ≠ m → R' b j = R b j) → Q 0 (L', R', up F m 2 (-1), E, N + 15)) : T_X10_init [m] (L, R, F, E, N) Q := by
  try simp (disch := omega) only [t_X10_init, ue_X10_init, zLg, zRf, zFq, zEl, zNz, zUf, zUe, zUr, zCe, zSn, gd_0, gd_1, gd_2, gd_3, gd_4, gd_5, gd_6, gd_7, gd_8, gd_9, gd_10, gd_11, gd_12, gd_13, gd_14, gd_15, gd_16, gd_17, gd_18, gd_19, se_0, se_1, se_2, se_3, se_4, se_5, se_6, se_7, se_8, se_9, se_10, se_11, se_12, se_13, se_14, se_15, se_16, se_17, se_18, se_19, e_const, e_load, e_store, e_iinc, e_dup, e_dup2, e_pop, e_iadd, e_isub, e_imul, e_ladd, e_lsub, e_lmul, e_iaddw, e_isubw, e_imulw, e_laddw, e_lsubw, e_lmulw, e_iand, e_ior, e_ishl, e_ishr, e_iushr, e_lcmp, e_imax, e_imin, e_idiv, e_irem, e_ldiv, e_lrem, e_i2l, e_i2b, e_l2i, e_i2c, e_getF, e_getR, e_putF, e_putR, e_putz, e_ald, e_aldR, e_ast, e_astb, e_astz, e_asta, e_len, e_acopy, e_new, e_newa, e_mna, e_this, e_room, e_call0, e_callv0, e_call1, e_callv1, e_inv1, e_invv1, e_call2, e_callv2, e_inv2, e_invv2, e_call3, e_callv3, e_inv3, e_invv3, e_call4, e_callv4, e_inv4, e_invv4, e_call5, e_callv5, e_inv5, e_invv5, e_call6, e_callv6, e_inv6, e_invv6, e_call7, e_callv7, e_inv7, e_invv7, e_call8, e_callv8, e_inv8, e_invv8, e_ret, e_retz, e_retc, e_retb, e_retv, e_skip, e_sco, e_tlen, e_tat, e_iz_eq0, e_iz_eq1, e_iz_ne0, e_iz_ne1, add0, sc_d, sc_t, inI_e, inL_e, up_eq, true_or, or_true, or_false, false_or, and_true, true_and, not_false_eq_true, Int.reduceAdd, Int.reduceSub, Int.reduceMul, Int.reduceNeg, zSa, Nat.add_assoc, Nat.reduceAdd, Int.reduceToNat]
  refine hQ _ _ ?_ ?_ ?_ ?_
  · unfold mtT
    refine ⟨pm, ?_, ?_, ?_, ?_, ?_, ?_, ?_, ?_, ?_, ?_, ?_, ?_, ?_, ?_, ?_, ?_, ?_, ?_, ?_, ?_, ?_, ?_, ?_, ?_, ?_, ?_, ?_, ?_, ?_, ?_⟩
    all_goals
      try simp (disch := omega) only [up_ne, up_eq, us_n, us_e2, umL_i, umL_e, umL_n, umR_e, umR_n]
      try omega
  · try simp (disch := omega) only [up_ne]
  · intro b z
    try simp (disch := omega) only [us_n]
  · intro b j z
    try simp (disch := omega) only [up_ne]
end INITC

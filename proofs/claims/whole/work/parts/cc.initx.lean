/-! ===== constructors of the class's parts ===== -/
def umL (L : Int → Int) (p a z b : Int) : Int → Int := fun q => if p + 1 ≤ q ∧ q < p + 1 + a then b else if q = p then z else L q
def umR (R : Int → Int → Int) (p : Int) : Int → Int → Int := fun q j => if q = p then p + 1 + j else R q j
theorem umL_i {L : Int → Int} {p a z b q : Int} (h : p + 1 ≤ q ∧ q < p + 1 + a) : umL L p a z b q = b := if_pos h
theorem umL_e {L : Int → Int} {p a z b q : Int} (h : q = p) : umL L p a z b q = z := by
  unfold umL
  rw [if_neg (by omega), if_pos h]
theorem umL_n {L : Int → Int} {p a z b q : Int} (h : q ≠ p ∧ (q < p + 1 ∨ p + 1 + a ≤ q)) : umL L p a z b q = L q := by
  unfold umL
  rw [if_neg (by omega), if_neg h.1]
theorem umR_e {R : Int → Int → Int} {p q j : Int} (h : q = p) : umR R p q j = p + 1 + j := if_pos h
theorem umR_n {R : Int → Int → Int} {p q j : Int} (h : q ≠ p) : umR R p q j = R q j := if_neg h
theorem zSm {L : Int → Int} {R F E : Int → Int → Int} {N a : Nat} {z b : Int} : Sm (L, R, F, E, N) a z b = (umL L (N : Int) (a : Int) z b, umR R (N : Int), F, E, N + 1 + a) := rfl
section INITX
variable {L : Int → Int} {R F E : Int → Int → Int} {N : Nat} {Q : xQ} {t w f r q s d a y A c : Int}
theorem sX_newThing (hN : (N : Int) = t + 1) (pt : 0 ≤ t) (hQ : ∀ (L' : Int → Int) (R' : Int → Int → Int), thT t L' R' → (∀ b : Int, b ≤ t → L' b = L b) → (∀ b j : Int, b ≠ t → b < (N : Int) → R' b j = R b j) → Q 0 (L', R', F, E, N + 3)) : T_X6_init [t] (L, R, F, E, N) Q := by
  try simp (disch := omega) only [t_X6_init, ue_X6_init, zLg, zRf, zFq, zEl, zNz, zUf, zUe, zUr, zCe, zSn, gd_0, gd_1, gd_2, gd_3, gd_4, gd_5, gd_6, gd_7, gd_8, gd_9, gd_10, gd_11, gd_12, gd_13, gd_14, gd_15, gd_16, gd_17, gd_18, gd_19, se_0, se_1, se_2, se_3, se_4, se_5, se_6, se_7, se_8, se_9, se_10, se_11, se_12, se_13, se_14, se_15, se_16, se_17, se_18, se_19, e_const, e_load, e_store, e_iinc, e_dup, e_dup2, e_pop, e_iadd, e_isub, e_imul, e_ladd, e_lsub, e_lmul, e_iaddw, e_isubw, e_imulw, e_laddw, e_lsubw, e_lmulw, e_iand, e_ior, e_ishl, e_ishr, e_iushr, e_lcmp, e_imax, e_imin, e_idiv, e_irem, e_ldiv, e_lrem, e_i2l, e_i2b, e_l2i, e_i2c, e_getF, e_getR, e_putF, e_putR, e_putz, e_ald, e_aldR, e_ast, e_astb, e_astz, e_asta, e_len, e_acopy, e_new, e_newa, e_mna, e_this, e_room, e_call0, e_callv0, e_call1, e_callv1, e_inv1, e_invv1, e_call2, e_callv2, e_inv2, e_invv2, e_call3, e_callv3, e_inv3, e_invv3, e_call4, e_callv4, e_inv4, e_invv4, e_call5, e_callv5, e_inv5, e_invv5, e_call6, e_callv6, e_inv6, e_invv6, e_call7, e_callv7, e_inv7, e_invv7, e_call8, e_callv8, e_inv8, e_invv8, e_ret, e_retz, e_retc, e_retb, e_retv, e_skip, e_sco, e_tlen, e_tat, e_iz_eq0, e_iz_eq1, e_iz_ne0, e_iz_ne1, add0, sc_d, sc_t, inI_e, inL_e, up_eq, true_or, or_true, or_false, false_or, and_true, true_and, not_false_eq_true, Int.reduceAdd, Int.reduceSub, Int.reduceMul, Int.reduceNeg, zSa, zSm, Nat.add_assoc, Nat.reduceAdd, Int.reduceToNat]
  refine hQ _ _ ?_ ?_ ?_
  · unfold thT
    refine ⟨pt, ?_, ?_, ?_, ?_, ?_, ?_⟩
    all_goals
      try intro g u v
      try simp (disch := omega) only [up_ne, up_eq, us_n, us_e2, umL_i, umL_e, umL_n, umR_e, umR_n]
      try omega
  · intro b z
    try simp (disch := omega) only [us_n, umL_n]
  · intro b j z z2
    try simp (disch := omega) only [up_ne, umR_n]
theorem sX_newWay (hN : (N : Int) = w + 1) (pt : 0 ≤ w) (hQ : ∀ (L' : Int → Int) (R' : Int → Int → Int), wyT w L' R' → (∀ b : Int, b ≤ w → L' b = L b) → (∀ b j : Int, b ≠ w → b < (N : Int) → R' b j = R b j) → Q 0 (L', R', F, E, N + 1)) : T_X7_init [w] (L, R, F, E, N) Q := by
  try simp (disch := omega) only [t_X7_init, ue_X7_init, zLg, zRf, zFq, zEl, zNz, zUf, zUe, zUr, zCe, zSn, gd_0, gd_1, gd_2, gd_3, gd_4, gd_5, gd_6, gd_7, gd_8, gd_9, gd_10, gd_11, gd_12, gd_13, gd_14, gd_15, gd_16, gd_17, gd_18, gd_19, se_0, se_1, se_2, se_3, se_4, se_5, se_6, se_7, se_8, se_9, se_10, se_11, se_12, se_13, se_14, se_15, se_16, se_17, se_18, se_19, e_const, e_load, e_store, e_iinc, e_dup, e_dup2, e_pop, e_iadd, e_isub, e_imul, e_ladd, e_lsub, e_lmul, e_iaddw, e_isubw, e_imulw, e_laddw, e_lsubw, e_lmulw, e_iand, e_ior, e_ishl, e_ishr, e_iushr, e_lcmp, e_imax, e_imin, e_idiv, e_irem, e_ldiv, e_lrem, e_i2l, e_i2b, e_l2i, e_i2c, e_getF, e_getR, e_putF, e_putR, e_putz, e_ald, e_aldR, e_ast, e_astb, e_astz, e_asta, e_len, e_acopy, e_new, e_newa, e_mna, e_this, e_room, e_call0, e_callv0, e_call1, e_callv1, e_inv1, e_invv1, e_call2, e_callv2, e_inv2, e_invv2, e_call3, e_callv3, e_inv3, e_invv3, e_call4, e_callv4, e_inv4, e_invv4, e_call5, e_callv5, e_inv5, e_invv5, e_call6, e_callv6, e_inv6, e_invv6, e_call7, e_callv7, e_inv7, e_invv7, e_call8, e_callv8, e_inv8, e_invv8, e_ret, e_retz, e_retc, e_retb, e_retv, e_skip, e_sco, e_tlen, e_tat, e_iz_eq0, e_iz_eq1, e_iz_ne0, e_iz_ne1, add0, sc_d, sc_t, inI_e, inL_e, up_eq, true_or, or_true, or_false, false_or, and_true, true_and, not_false_eq_true, Int.reduceAdd, Int.reduceSub, Int.reduceMul, Int.reduceNeg, zSa, zSm, Nat.add_assoc, Nat.reduceAdd, Int.reduceToNat]
  refine hQ _ _ ?_ ?_ ?_
  · unfold wyT
    refine ⟨pt, ?_, ?_⟩
    all_goals
      try intro g u v
      try simp (disch := omega) only [up_ne, up_eq, us_n, us_e2, umL_i, umL_e, umL_n, umR_e, umR_n]
      try omega
  · intro b z
    try simp (disch := omega) only [us_n, umL_n]
  · intro b j z z2
    try simp (disch := omega) only [up_ne, umR_n]
theorem sX_newFin (hN : (N : Int) = f + 1) (pt : 0 ≤ f) (hQ : ∀ (L' : Int → Int) (R' : Int → Int → Int), fnT f L' R' → (∀ b : Int, b ≤ f → L' b = L b) → (∀ b j : Int, b ≠ f → b < (N : Int) → R' b j = R b j) → Q 0 (L', R', F, E, N + 3)) : T_X3_init [f, c] (L, R, F, E, N) Q := by
  try simp (disch := omega) only [t_X3_init, ue_X3_init, zLg, zRf, zFq, zEl, zNz, zUf, zUe, zUr, zCe, zSn, gd_0, gd_1, gd_2, gd_3, gd_4, gd_5, gd_6, gd_7, gd_8, gd_9, gd_10, gd_11, gd_12, gd_13, gd_14, gd_15, gd_16, gd_17, gd_18, gd_19, se_0, se_1, se_2, se_3, se_4, se_5, se_6, se_7, se_8, se_9, se_10, se_11, se_12, se_13, se_14, se_15, se_16, se_17, se_18, se_19, e_const, e_load, e_store, e_iinc, e_dup, e_dup2, e_pop, e_iadd, e_isub, e_imul, e_ladd, e_lsub, e_lmul, e_iaddw, e_isubw, e_imulw, e_laddw, e_lsubw, e_lmulw, e_iand, e_ior, e_ishl, e_ishr, e_iushr, e_lcmp, e_imax, e_imin, e_idiv, e_irem, e_ldiv, e_lrem, e_i2l, e_i2b, e_l2i, e_i2c, e_getF, e_getR, e_putF, e_putR, e_putz, e_ald, e_aldR, e_ast, e_astb, e_astz, e_asta, e_len, e_acopy, e_new, e_newa, e_mna, e_this, e_room, e_call0, e_callv0, e_call1, e_callv1, e_inv1, e_invv1, e_call2, e_callv2, e_inv2, e_invv2, e_call3, e_callv3, e_inv3, e_invv3, e_call4, e_callv4, e_inv4, e_invv4, e_call5, e_callv5, e_inv5, e_invv5, e_call6, e_callv6, e_inv6, e_invv6, e_call7, e_callv7, e_inv7, e_invv7, e_call8, e_callv8, e_inv8, e_invv8, e_ret, e_retz, e_retc, e_retb, e_retv, e_skip, e_sco, e_tlen, e_tat, e_iz_eq0, e_iz_eq1, e_iz_ne0, e_iz_ne1, add0, sc_d, sc_t, inI_e, inL_e, up_eq, true_or, or_true, or_false, false_or, and_true, true_and, not_false_eq_true, Int.reduceAdd, Int.reduceSub, Int.reduceMul, Int.reduceNeg, zSa, zSm, Nat.add_assoc, Nat.reduceAdd, Int.reduceToNat]
  refine hQ _ _ ?_ ?_ ?_
  · unfold fnT
    refine ⟨pt, ?_, ?_, ?_, ?_, ?_, ?_⟩
    all_goals
      try intro g u v
      try simp (disch := omega) only [up_ne, up_eq, us_n, us_e2, umL_i, umL_e, umL_n, umR_e, umR_n]
      try omega
  · intro b z
    try simp (disch := omega) only [us_n, umL_n]
  · intro b j z z2
    try simp (disch := omega) only [up_ne, umR_n]
theorem sX_newThief (hN : (N : Int) = t + 1) (pt : 0 ≤ t) (hQ : ∀ (L' : Int → Int) (R' : Int → Int → Int), tfT t L' R' → (∀ b : Int, b ≤ t → L' b = L b) → (∀ b j : Int, b ≠ t → b < (N : Int) → R' b j = R b j) → Q 0 (L', R', F, E, N + 3)) : T_X5_init [t] (L, R, F, E, N) Q := by
  try simp (disch := omega) only [t_X5_init, ue_X5_init, zLg, zRf, zFq, zEl, zNz, zUf, zUe, zUr, zCe, zSn, gd_0, gd_1, gd_2, gd_3, gd_4, gd_5, gd_6, gd_7, gd_8, gd_9, gd_10, gd_11, gd_12, gd_13, gd_14, gd_15, gd_16, gd_17, gd_18, gd_19, se_0, se_1, se_2, se_3, se_4, se_5, se_6, se_7, se_8, se_9, se_10, se_11, se_12, se_13, se_14, se_15, se_16, se_17, se_18, se_19, e_const, e_load, e_store, e_iinc, e_dup, e_dup2, e_pop, e_iadd, e_isub, e_imul, e_ladd, e_lsub, e_lmul, e_iaddw, e_isubw, e_imulw, e_laddw, e_lsubw, e_lmulw, e_iand, e_ior, e_ishl, e_ishr, e_iushr, e_lcmp, e_imax, e_imin, e_idiv, e_irem, e_ldiv, e_lrem, e_i2l, e_i2b, e_l2i, e_i2c, e_getF, e_getR, e_putF, e_putR, e_putz, e_ald, e_aldR, e_ast, e_astb, e_astz, e_asta, e_len, e_acopy, e_new, e_newa, e_mna, e_this, e_room, e_call0, e_callv0, e_call1, e_callv1, e_inv1, e_invv1, e_call2, e_callv2, e_inv2, e_invv2, e_call3, e_callv3, e_inv3, e_invv3, e_call4, e_callv4, e_inv4, e_invv4, e_call5, e_callv5, e_inv5, e_invv5, e_call6, e_callv6, e_inv6, e_invv6, e_call7, e_callv7, e_inv7, e_invv7, e_call8, e_callv8, e_inv8, e_invv8, e_ret, e_retz, e_retc, e_retb, e_retv, e_skip, e_sco, e_tlen, e_tat, e_iz_eq0, e_iz_eq1, e_iz_ne0, e_iz_ne1, add0, sc_d, sc_t, inI_e, inL_e, up_eq, true_or, or_true, or_false, false_or, and_true, true_and, not_false_eq_true, Int.reduceAdd, Int.reduceSub, Int.reduceMul, Int.reduceNeg, zSa, zSm, Nat.add_assoc, Nat.reduceAdd, Int.reduceToNat]
  refine hQ _ _ ?_ ?_ ?_
  · unfold tfT
    refine ⟨pt, ?_, ?_, ?_, ?_, ?_, ?_⟩
    all_goals
      try intro g u v
      try simp (disch := omega) only [up_ne, up_eq, us_n, us_e2, umL_i, umL_e, umL_n, umR_e, umR_n]
      try omega
  · intro b z
    try simp (disch := omega) only [us_n, umL_n]
  · intro b j z z2
    try simp (disch := omega) only [up_ne, umR_n]
theorem sX_newActs (hN : (N : Int) = A + 1) (pt : 0 ≤ A) (hQ : ∀ (L' : Int → Int) (R' : Int → Int → Int), acT A L' R' → (∀ b : Int, b ≤ A → L' b = L b) → (∀ b j : Int, b ≠ A → b < (N : Int) → R' b j = R b j) → Q 0 (L', R', F, E, N + 11)) : T_X0_init [A] (L, R, F, E, N) Q := by
  try simp (disch := omega) only [t_X0_init, ue_X0_init, zLg, zRf, zFq, zEl, zNz, zUf, zUe, zUr, zCe, zSn, gd_0, gd_1, gd_2, gd_3, gd_4, gd_5, gd_6, gd_7, gd_8, gd_9, gd_10, gd_11, gd_12, gd_13, gd_14, gd_15, gd_16, gd_17, gd_18, gd_19, se_0, se_1, se_2, se_3, se_4, se_5, se_6, se_7, se_8, se_9, se_10, se_11, se_12, se_13, se_14, se_15, se_16, se_17, se_18, se_19, e_const, e_load, e_store, e_iinc, e_dup, e_dup2, e_pop, e_iadd, e_isub, e_imul, e_ladd, e_lsub, e_lmul, e_iaddw, e_isubw, e_imulw, e_laddw, e_lsubw, e_lmulw, e_iand, e_ior, e_ishl, e_ishr, e_iushr, e_lcmp, e_imax, e_imin, e_idiv, e_irem, e_ldiv, e_lrem, e_i2l, e_i2b, e_l2i, e_i2c, e_getF, e_getR, e_putF, e_putR, e_putz, e_ald, e_aldR, e_ast, e_astb, e_astz, e_asta, e_len, e_acopy, e_new, e_newa, e_mna, e_this, e_room, e_call0, e_callv0, e_call1, e_callv1, e_inv1, e_invv1, e_call2, e_callv2, e_inv2, e_invv2, e_call3, e_callv3, e_inv3, e_invv3, e_call4, e_callv4, e_inv4, e_invv4, e_call5, e_callv5, e_inv5, e_invv5, e_call6, e_callv6, e_inv6, e_invv6, e_call7, e_callv7, e_inv7, e_invv7, e_call8, e_callv8, e_inv8, e_invv8, e_ret, e_retz, e_retc, e_retb, e_retv, e_skip, e_sco, e_tlen, e_tat, e_iz_eq0, e_iz_eq1, e_iz_ne0, e_iz_ne1, add0, sc_d, sc_t, inI_e, inL_e, up_eq, true_or, or_true, or_false, false_or, and_true, true_and, not_false_eq_true, Int.reduceAdd, Int.reduceSub, Int.reduceMul, Int.reduceNeg, zSa, zSm, Nat.add_assoc, Nat.reduceAdd, Int.reduceToNat]
  refine hQ _ _ ?_ ?_ ?_
  · unfold acT
    refine ⟨pt, ?_, ?_, ?_, ?_⟩
    all_goals
      try intro g u v
      try simp (disch := omega) only [up_ne, up_eq, us_n, us_e2, umL_i, umL_e, umL_n, umR_e, umR_n]
      try omega
  · intro b z
    try simp (disch := omega) only [us_n, umL_n]
  · intro b j z z2
    try simp (disch := omega) only [up_ne, umR_n]
theorem sX_newDay (hN : (N : Int) = d + 1) (pt : 0 ≤ d) (hQ : ∀ (L' : Int → Int) (R' : Int → Int → Int), dyT d L' R' → R' d 8 = a → R' d 9 = y → (∀ b : Int, b ≤ d → L' b = L b) → (∀ b j : Int, b ≠ d → b < (N : Int) → R' b j = R b j) → Q 0 (L', R', F, E, N + 16)) : T_X2_init [d, a, y] (L, R, F, E, N) Q := by
  try simp (disch := omega) only [t_X2_init, ue_X2_init, zLg, zRf, zFq, zEl, zNz, zUf, zUe, zUr, zCe, zSn, gd_0, gd_1, gd_2, gd_3, gd_4, gd_5, gd_6, gd_7, gd_8, gd_9, gd_10, gd_11, gd_12, gd_13, gd_14, gd_15, gd_16, gd_17, gd_18, gd_19, se_0, se_1, se_2, se_3, se_4, se_5, se_6, se_7, se_8, se_9, se_10, se_11, se_12, se_13, se_14, se_15, se_16, se_17, se_18, se_19, e_const, e_load, e_store, e_iinc, e_dup, e_dup2, e_pop, e_iadd, e_isub, e_imul, e_ladd, e_lsub, e_lmul, e_iaddw, e_isubw, e_imulw, e_laddw, e_lsubw, e_lmulw, e_iand, e_ior, e_ishl, e_ishr, e_iushr, e_lcmp, e_imax, e_imin, e_idiv, e_irem, e_ldiv, e_lrem, e_i2l, e_i2b, e_l2i, e_i2c, e_getF, e_getR, e_putF, e_putR, e_putz, e_ald, e_aldR, e_ast, e_astb, e_astz, e_asta, e_len, e_acopy, e_new, e_newa, e_mna, e_this, e_room, e_call0, e_callv0, e_call1, e_callv1, e_inv1, e_invv1, e_call2, e_callv2, e_inv2, e_invv2, e_call3, e_callv3, e_inv3, e_invv3, e_call4, e_callv4, e_inv4, e_invv4, e_call5, e_callv5, e_inv5, e_invv5, e_call6, e_callv6, e_inv6, e_invv6, e_call7, e_callv7, e_inv7, e_invv7, e_call8, e_callv8, e_inv8, e_invv8, e_ret, e_retz, e_retc, e_retb, e_retv, e_skip, e_sco, e_tlen, e_tat, e_iz_eq0, e_iz_eq1, e_iz_ne0, e_iz_ne1, add0, sc_d, sc_t, inI_e, inL_e, up_eq, true_or, or_true, or_false, false_or, and_true, true_and, not_false_eq_true, Int.reduceAdd, Int.reduceSub, Int.reduceMul, Int.reduceNeg, zSa, zSm, Nat.add_assoc, Nat.reduceAdd, Int.reduceToNat]
  refine hQ _ _ ?_ ?_ ?_ ?_ ?_
  · unfold dyT
    refine ⟨pt, ?_, ?_, ?_, ?_, ?_, ?_, ?_, ?_, ?_, ?_, ?_, ?_, ?_, ?_⟩
    all_goals
      try intro g u v
      try simp (disch := omega) only [up_ne, up_eq, us_n, us_e2, umL_i, umL_e, umL_n, umR_e, umR_n]
      try omega
  · try simp (disch := omega) only [up_ne, up_eq, us_n, us_e2, umL_i, umL_e, umL_n, umR_e, umR_n]
  · try simp (disch := omega) only [up_ne, up_eq, us_n, us_e2, umL_i, umL_e, umL_n, umR_e, umR_n]
  · intro b z
    try simp (disch := omega) only [us_n, umL_n]
  · intro b j z z2
    try simp (disch := omega) only [up_ne, umR_n]
theorem sX_newRead (hN : (N : Int) = r + 1) (pt : 0 ≤ r) (pq : 0 ≤ q) (qr : q < r) (lq : L q = 900) (hQ : ∀ (L' : Int → Int) (R' : Int → Int → Int), rdT r q L' R' → (∀ b : Int, b ≤ r → L' b = L b) → (∀ b j : Int, b ≠ r → b < (N : Int) → R' b j = R b j) → Q 0 (L', R', F, E, N + 3)) : T_X4_init [r, q, s] (L, R, F, E, N) Q := by
  try simp (disch := omega) only [t_X4_init, ue_X4_init, zLg, zRf, zFq, zEl, zNz, zUf, zUe, zUr, zCe, zSn, gd_0, gd_1, gd_2, gd_3, gd_4, gd_5, gd_6, gd_7, gd_8, gd_9, gd_10, gd_11, gd_12, gd_13, gd_14, gd_15, gd_16, gd_17, gd_18, gd_19, se_0, se_1, se_2, se_3, se_4, se_5, se_6, se_7, se_8, se_9, se_10, se_11, se_12, se_13, se_14, se_15, se_16, se_17, se_18, se_19, e_const, e_load, e_store, e_iinc, e_dup, e_dup2, e_pop, e_iadd, e_isub, e_imul, e_ladd, e_lsub, e_lmul, e_iaddw, e_isubw, e_imulw, e_laddw, e_lsubw, e_lmulw, e_iand, e_ior, e_ishl, e_ishr, e_iushr, e_lcmp, e_imax, e_imin, e_idiv, e_irem, e_ldiv, e_lrem, e_i2l, e_i2b, e_l2i, e_i2c, e_getF, e_getR, e_putF, e_putR, e_putz, e_ald, e_aldR, e_ast, e_astb, e_astz, e_asta, e_len, e_acopy, e_new, e_newa, e_mna, e_this, e_room, e_call0, e_callv0, e_call1, e_callv1, e_inv1, e_invv1, e_call2, e_callv2, e_inv2, e_invv2, e_call3, e_callv3, e_inv3, e_invv3, e_call4, e_callv4, e_inv4, e_invv4, e_call5, e_callv5, e_inv5, e_invv5, e_call6, e_callv6, e_inv6, e_invv6, e_call7, e_callv7, e_inv7, e_invv7, e_call8, e_callv8, e_inv8, e_invv8, e_ret, e_retz, e_retc, e_retb, e_retv, e_skip, e_sco, e_tlen, e_tat, e_iz_eq0, e_iz_eq1, e_iz_ne0, e_iz_ne1, add0, sc_d, sc_t, inI_e, inL_e, up_eq, true_or, or_true, or_false, false_or, and_true, true_and, not_false_eq_true, Int.reduceAdd, Int.reduceSub, Int.reduceMul, Int.reduceNeg, zSa, zSm, Nat.add_assoc, Nat.reduceAdd, Int.reduceToNat]
  refine hQ _ _ ?_ ?_ ?_
  · unfold rdT
    refine ⟨pt, ?_, ?_, ?_, ?_, pq, ?_, ?_, ?_, ?_⟩
    all_goals
      try intro g u v
      try simp (disch := omega) only [up_ne, up_eq, us_n, us_e2, umL_i, umL_e, umL_n, umR_e, umR_n, lq]
      try omega
  · intro b z
    try simp (disch := omega) only [us_n, umL_n]
  · intro b j z z2
    try simp (disch := omega) only [up_ne, umR_n]
end INITX

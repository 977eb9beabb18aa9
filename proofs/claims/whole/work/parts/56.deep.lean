/-! ===== how deep a thing comes; how long bread lasts ===== -/
theorem meets0 {C : Cy} {th : Int → Int} {g p : Int} (h : meetsP C th g p = 0) : pw th p ≤ C 1 (C 2 g 0) 0 ∧ pw th p ≤ C 1 (C 2 g 0 + 1) 0 := by
  unfold meetsP at h
  repeat' (split at h)
  all_goals first | omega | skip
theorem open_fits {C : Cy} {th : Int → Int} {g : Int} (h : openP C th g) : fitsR C th (C 2 g 0) ∧ fitsR C th (C 2 g 0 + 1) := by
  have hb := h.2
  have m0 := meetsP_b C th g 0
  have m1 := meetsP_b C th g 1
  have m2 := meetsP_b C th g 2
  have e0 : pw th 0 = th 1 := rfl
  have e1 : pw th 1 = th 2 := rfl
  have e2 : pw th 2 = th 1 := rfl
  unfold barsP at hb
  unfold fitsR
  by_cases e6 : th 6 = 1 <;> by_cases e5 : th 5 = 1 <;> simp only [e5, e6, ↓reduceIte] at hb
  · have : meetsP C th g 0 = 0 ∨ meetsP C th g 1 = 0 ∨ meetsP C th g 2 = 0 := by omega
    rcases this with z | z | z <;> have := meets0 z <;> omega
  · have : meetsP C th g 0 = 0 ∨ meetsP C th g 2 = 0 := by omega
    rcases this with z | z <;> have := meets0 z <;> omega
  · have : meetsP C th g 0 = 0 ∨ meetsP C th g 1 = 0 := by omega
    rcases this with z | z <;> have := meets0 z <;> omega
  · have := meets0 hb
    omega
theorem sumP_b {f : Int → Int} {M : Int} (hM : 0 ≤ M) : ∀ n : Nat, (∀ k : Int, 0 ≤ k → k < n → 0 ≤ f k ∧ f k ≤ M) → 0 ≤ sumP f n ∧ sumP f n ≤ M * n := by
  intro n
  induction n with
  | zero => exact fun _ => ⟨Int.le_refl _, by simp [sumP]⟩
  | succ n ih =>
    intro h
    obtain ⟨h1, h2⟩ := ih fun k a b => h k a (by omega)
    obtain ⟨h3, h4⟩ := h n (by omega) (by omega)
    have e : M * ((n + 1 : Nat) : Int) = M * n + M := by rw [Int.natCast_add, Int.mul_add]; simp
    unfold sumP
    omega
theorem sumP_s {f : Int → Int} {i : Int} (h : 0 ≤ i) : sumP f (i + 1).toNat = sumP f i.toNat + f i := by
  have e : (i + 1).toNat = i.toNat + 1 := by omega
  rw [e]
  show sumP f i.toNat + f (i.toNat : Int) = _
  rw [Int.toNat_of_nonneg h]
theorem div_b {x y : Int} (h0 : 0 ≤ x) (h1 : x ≤ 1000000) (hy : 0 < y) : 0 ≤ Int.tdiv x y ∧ Int.tdiv x y ≤ 1000000 := by
  rw [Int.tdiv_eq_ediv_of_nonneg h0]
  exact ⟨Int.ediv_nonneg h0 (by omega), Int.le_trans (Int.ediv_le_self _ h0) h1⟩
section DEEP
variable {L : Int → Int} {R F E : Int → Int → Int} {N : Nat} {Q : xQ} {a t g p r m c : Int} {C : Cy} {th : Int → Int}
theorem sX_someGateLets (hT : ctT a L R) (hM : ctM a C F E) (hW : ctW C) (hTt : thT t L R) (hm : thM t th F E) (hth : thW th) (h1 : (∃ g : Int, 0 ≤ g ∧ g < C 0 1 0 ∧ C 2 g 0 = r ∧ openP C th g) → Q 1 (L, R, F, E, N)) (h0 : ¬ (∃ g : Int, 0 ≤ g ∧ g < C 0 1 0 ∧ C 2 g 0 = r ∧ openP C th g) → Q 0 (L, R, F, E, N)) : T_X1_someGateLets [a, t, r] (L, R, F, E, N) Q := by
  have pa := ct_p hT
  have b1 := cw_1 hW
  simp (disch := omega) only [ub_X1_someGateLets_33, ue_X1_someGateLets, t_X1_someGateLets, zLg, zRf, zFq, zEl, zNz, zUf, zUe, zUr, zCe, zSn, gd_0, gd_1, gd_2, gd_3, gd_4, gd_5, gd_6, gd_7, gd_8, gd_9, gd_10, gd_11, gd_12, gd_13, gd_14, gd_15, gd_16, gd_17, gd_18, gd_19, se_0, se_1, se_2, se_3, se_4, se_5, se_6, se_7, se_8, se_9, se_10, se_11, se_12, se_13, se_14, se_15, se_16, se_17, se_18, se_19, e_const, e_load, e_store, e_iinc, e_dup, e_dup2, e_pop, e_iadd, e_isub, e_imul, e_ladd, e_lsub, e_lmul, e_iaddw, e_isubw, e_imulw, e_laddw, e_lsubw, e_lmulw, e_iand, e_ior, e_ishl, e_ishr, e_iushr, e_lcmp, e_imax, e_imin, e_idiv, e_irem, e_ldiv, e_lrem, e_i2l, e_i2b, e_l2i, e_i2c, e_getF, e_getR, e_putF, e_putR, e_putz, e_ald, e_aldR, e_ast, e_astb, e_astz, e_asta, e_len, e_acopy, e_new, e_newa, e_mna, e_this, e_room, e_call0, e_callv0, e_call1, e_callv1, e_inv1, e_invv1, e_call2, e_callv2, e_inv2, e_invv2, e_call3, e_callv3, e_inv3, e_invv3, e_call4, e_callv4, e_inv4, e_invv4, e_call5, e_callv5, e_inv5, e_invv5, e_call6, e_callv6, e_inv6, e_invv6, e_call7, e_callv7, e_inv7, e_invv7, e_call8, e_callv8, e_inv8, e_invv8, e_ret, e_retz, e_retc, e_retb, e_retv, e_skip, e_sco, e_tlen, e_tat, e_iz_eq0, e_iz_eq1, e_iz_ne0, e_iz_ne1, add0, sc_d, sc_t, inI_e, inL_e, up_eq, true_or, or_true, or_false, false_or, and_true, true_and, not_false_eq_true, Int.reduceAdd, Int.reduceSub, Int.reduceMul, Int.reduceNeg]
  unfold L_X1_someGateLets_2
  refine lpw (fun n l st h c s => ∃ i : Int, l = [a, t, r, i] ∧ st = [] ∧ h = (L, R, F, E, N) ∧ 0 ≤ i ∧ (n : Int) = C 0 1 0 - i ∧ ∀ q : Int, 0 ≤ q → q < i → ¬ (C 2 q 0 = r ∧ openP C th q)) ?_ (n := (C 0 1 0).toNat) ⟨0, rfl, rfl, rfl, by omega, by omega, fun c _ _ => by omega⟩
  rintro n k hk l st h c s ⟨i, rfl, rfl, rfl, hi, hn, hinv⟩
  repeat' first
    | exact absurd hc (by decide)
    | with_reducible refine sX_letsThrough hT hM hW hTt hm hth ?_ ?_ (fun ho => ?_) (fun ho => ?_)
    | simp (disch := omega) only [ub_X1_someGateLets_33, ue_X1_someGateLets, t_X1_someGateLets, zLg, zRf, zFq, zEl, zNz, zUf, zUe, zUr, zCe, zSn, gd_0, gd_1, gd_2, gd_3, gd_4, gd_5, gd_6, gd_7, gd_8, gd_9, gd_10, gd_11, gd_12, gd_13, gd_14, gd_15, gd_16, gd_17, gd_18, gd_19, se_0, se_1, se_2, se_3, se_4, se_5, se_6, se_7, se_8, se_9, se_10, se_11, se_12, se_13, se_14, se_15, se_16, se_17, se_18, se_19, e_const, e_load, e_store, e_iinc, e_dup, e_dup2, e_pop, e_iadd, e_isub, e_imul, e_ladd, e_lsub, e_lmul, e_iaddw, e_isubw, e_imulw, e_laddw, e_lsubw, e_lmulw, e_iand, e_ior, e_ishl, e_ishr, e_iushr, e_lcmp, e_imax, e_imin, e_idiv, e_irem, e_ldiv, e_lrem, e_i2l, e_i2b, e_l2i, e_i2c, e_getF, e_getR, e_putF, e_putR, e_putz, e_ald, e_aldR, e_ast, e_astb, e_astz, e_asta, e_len, e_acopy, e_new, e_newa, e_mna, e_this, e_room, e_call0, e_callv0, e_call1, e_callv1, e_inv1, e_invv1, e_call2, e_callv2, e_inv2, e_invv2, e_call3, e_callv3, e_inv3, e_invv3, e_call4, e_callv4, e_inv4, e_invv4, e_call5, e_callv5, e_inv5, e_invv5, e_call6, e_callv6, e_inv6, e_invv6, e_call7, e_callv7, e_inv7, e_invv7, e_call8, e_callv8, e_inv8, e_invv8, e_ret, e_retz, e_retc, e_retb, e_retv, e_skip, e_sco, e_tlen, e_tat, e_iz_eq0, e_iz_eq1, e_iz_ne0, e_iz_ne1, add0, sc_d, sc_t, inI_e, inL_e, up_eq, true_or, or_true, or_false, false_or, and_true, true_and, not_false_eq_true, Int.reduceAdd, Int.reduceSub, Int.reduceMul, Int.reduceNeg, ct_5 hT, ct_6 hT, ct_7 hT, ct_8 hT, ct_9 hT, ct_10 hT, ct_11 hT, ct_l1 hT, ct_l2 hT, ct_l14 hT, ct_l23 hT, ct_l30 hT, ct_l39 hT, ct_l40 hT, ct_gr hT, ct_gl hT, ct_cr hT, ct_cl hT, ct_sr hT, ct_sl hT, ct_or hT, ct_ol hT, ct_wr hT, ct_pr hT, cm_0 hM, cm_1 hM, cm_2 hM, cm_3 hM, cm_4 hM, cm_w hM, cm_g hM, cm_c hM, cm_s hM, cm_o hM]
    | with_reducible first | refine ic_ge (fun hc => ?_) (fun hc => ?_) | refine ic_lt (fun hc => ?_) (fun hc => ?_) | refine ic_ne (fun hc => ?_) (fun hc => ?_) | refine ic_eq (fun hc => ?_) (fun hc => ?_) | refine ic_le (fun hc => ?_) (fun hc => ?_) | refine ic_gt (fun hc => ?_) (fun hc => ?_) | refine iz_eq (fun hc => ?_) (fun hc => ?_) | refine iz_ne (fun hc => ?_) (fun hc => ?_) | refine iz_lt (fun hc => ?_) (fun hc => ?_) | refine iz_ge (fun hc => ?_) (fun hc => ?_) | refine iz_gt (fun hc => ?_) (fun hc => ?_) | refine iz_le (fun hc => ?_) (fun hc => ?_) | refine iz_nu (fun hc => ?_) (fun hc => ?_) | refine iz_nn (fun hc => ?_) (fun hc => ?_)
    | omega
  · refine h0 fun ⟨q, z1, z2, z3, z4⟩ => hinv q z1 (by omega) ⟨z3, z4⟩
  · refine hk (n - 1) _ _ _ _ _ (by omega) ⟨i + 1, rfl, rfl, rfl, by omega, by omega, fun q z1 z2 => ?_⟩
    by_cases z : q = i
    · subst z; exact fun w => hc w.1
    · exact hinv q z1 (by omega)
  · exact h1 ⟨i, hi, by omega, by omega, ho⟩
  · refine hk (n - 1) _ _ _ _ _ (by omega) ⟨i + 1, rfl, rfl, rfl, by omega, by omega, fun q z1 z2 => ?_⟩
    by_cases z : q = i
    · subst z; exact fun w => ho w.2
    · exact hinv q z1 (by omega)
theorem sX_ringSuits (hT : ctT a L R) (hM : ctM a C F E) (hW : ctW C) (hTt : thT t L R) (hm : thM t th F E) (hth : thW th) {cart : Int} (hr0 : 0 ≤ r) (hr1 : r < C 0 0 0) (h1 : suitP C th cart r → Q 1 (L, R, F, E, N)) (h0 : ¬ suitP C th cart r → Q 0 (L, R, F, E, N)) : T_X1_ringSuits [a, t, r, cart] (L, R, F, E, N) Q := by
  have pa := ct_p hT
  have pt := tt_p hTt
  have b0 := cw_0 hW
  have nl := @narP_le th (C 1 r 0) (tw_5 hth)
  unfold suitP at h1 h0
  repeat' first
    | exact absurd hc (by decide)
    | with_reducible refine sX_narrowest hTt hm hth ?_
    | with_reducible refine sX_ringBears hT hM hW hTt hm hth hr0 hr1 (fun hb => ?_) (fun hb => ?_)
    | simp (disch := omega) only [ub_X1_ringSuits_31, ue_X1_ringSuits, t_X1_ringSuits, zLg, zRf, zFq, zEl, zNz, zUf, zUe, zUr, zCe, zSn, gd_0, gd_1, gd_2, gd_3, gd_4, gd_5, gd_6, gd_7, gd_8, gd_9, gd_10, gd_11, gd_12, gd_13, gd_14, gd_15, gd_16, gd_17, gd_18, gd_19, se_0, se_1, se_2, se_3, se_4, se_5, se_6, se_7, se_8, se_9, se_10, se_11, se_12, se_13, se_14, se_15, se_16, se_17, se_18, se_19, e_const, e_load, e_store, e_iinc, e_dup, e_dup2, e_pop, e_iadd, e_isub, e_imul, e_ladd, e_lsub, e_lmul, e_iaddw, e_isubw, e_imulw, e_laddw, e_lsubw, e_lmulw, e_iand, e_ior, e_ishl, e_ishr, e_iushr, e_lcmp, e_imax, e_imin, e_idiv, e_irem, e_ldiv, e_lrem, e_i2l, e_i2b, e_l2i, e_i2c, e_getF, e_getR, e_putF, e_putR, e_putz, e_ald, e_aldR, e_ast, e_astb, e_astz, e_asta, e_len, e_acopy, e_new, e_newa, e_mna, e_this, e_room, e_call0, e_callv0, e_call1, e_callv1, e_inv1, e_invv1, e_call2, e_callv2, e_inv2, e_invv2, e_call3, e_callv3, e_inv3, e_invv3, e_call4, e_callv4, e_inv4, e_invv4, e_call5, e_callv5, e_inv5, e_invv5, e_call6, e_callv6, e_inv6, e_invv6, e_call7, e_callv7, e_inv7, e_invv7, e_call8, e_callv8, e_inv8, e_invv8, e_ret, e_retz, e_retc, e_retb, e_retv, e_skip, e_sco, e_tlen, e_tat, e_iz_eq0, e_iz_eq1, e_iz_ne0, e_iz_ne1, add0, sc_d, sc_t, inI_e, inL_e, up_eq, true_or, or_true, or_false, false_or, and_true, true_and, not_false_eq_true, Int.reduceAdd, Int.reduceSub, Int.reduceMul, Int.reduceNeg, ct_5 hT, ct_6 hT, ct_7 hT, ct_8 hT, ct_9 hT, ct_10 hT, ct_11 hT, ct_l1 hT, ct_l2 hT, ct_l14 hT, ct_l23 hT, ct_l30 hT, ct_l39 hT, ct_l40 hT, ct_gr hT, ct_gl hT, ct_cr hT, ct_cl hT, ct_sr hT, ct_sl hT, ct_or hT, ct_ol hT, ct_wr hT, ct_pr hT, cm_0 hM, cm_1 hM, cm_2 hM, cm_3 hM, cm_4 hM, cm_w hM, cm_g hM, cm_c hM, cm_s hM, cm_o hM]
    | with_reducible first | refine ic_ge (fun hc => ?_) (fun hc => ?_) | refine ic_lt (fun hc => ?_) (fun hc => ?_) | refine ic_ne (fun hc => ?_) (fun hc => ?_) | refine ic_eq (fun hc => ?_) (fun hc => ?_) | refine ic_le (fun hc => ?_) (fun hc => ?_) | refine ic_gt (fun hc => ?_) (fun hc => ?_) | refine iz_eq (fun hc => ?_) (fun hc => ?_) | refine iz_ne (fun hc => ?_) (fun hc => ?_) | refine iz_lt (fun hc => ?_) (fun hc => ?_) | refine iz_ge (fun hc => ?_) (fun hc => ?_) | refine iz_gt (fun hc => ?_) (fun hc => ?_) | refine iz_le (fun hc => ?_) (fun hc => ?_) | refine iz_nu (fun hc => ?_) (fun hc => ?_) | refine iz_nn (fun hc => ?_) (fun hc => ?_)
    | omega
  · rw [if_pos (by omega)] at h0; exact h0 fun z => by have := nl.mpr z; omega
  · rw [if_pos (by omega)] at h1; exact h1 (nl.mp (by omega))
  · rw [if_neg (by omega)] at h1; exact h1 hb
  · rw [if_neg (by omega)] at h0; exact h0 hb
theorem sX_depthOf (hT : ctT a L R) (hM : ctM a C F E) (hW : ctW C) (hTt : thT t L R) (hm : thM t th F E) (hth : thW th) {cart : Int} (hr : 0 < C 0 0 0) (hQ : ∀ d : Int, deepP C th cart d → (d = -2 ∨ (0 ≤ d ∧ d < 6)) → Q d (L, R, F, E, N)) : T_X1_depthOf [a, t, cart] (L, R, F, E, N) Q := by
  have pa := ct_p hT
  have b0 := cw_0 hW
  repeat' first
    | exact absurd hc (by decide)
    | with_reducible refine sX_ringSuits hT hM hW hTt hm hth ?_ ?_ (fun hs => ?_) (fun hs => ?_)
    | simp (disch := omega) only [ub_X1_depthOf_52, ue_X1_depthOf, t_X1_depthOf, zLg, zRf, zFq, zEl, zNz, zUf, zUe, zUr, zCe, zSn, gd_0, gd_1, gd_2, gd_3, gd_4, gd_5, gd_6, gd_7, gd_8, gd_9, gd_10, gd_11, gd_12, gd_13, gd_14, gd_15, gd_16, gd_17, gd_18, gd_19, se_0, se_1, se_2, se_3, se_4, se_5, se_6, se_7, se_8, se_9, se_10, se_11, se_12, se_13, se_14, se_15, se_16, se_17, se_18, se_19, e_const, e_load, e_store, e_iinc, e_dup, e_dup2, e_pop, e_iadd, e_isub, e_imul, e_ladd, e_lsub, e_lmul, e_iaddw, e_isubw, e_imulw, e_laddw, e_lsubw, e_lmulw, e_iand, e_ior, e_ishl, e_ishr, e_iushr, e_lcmp, e_imax, e_imin, e_idiv, e_irem, e_ldiv, e_lrem, e_i2l, e_i2b, e_l2i, e_i2c, e_getF, e_getR, e_putF, e_putR, e_putz, e_ald, e_aldR, e_ast, e_astb, e_astz, e_asta, e_len, e_acopy, e_new, e_newa, e_mna, e_this, e_room, e_call0, e_callv0, e_call1, e_callv1, e_inv1, e_invv1, e_call2, e_callv2, e_inv2, e_invv2, e_call3, e_callv3, e_inv3, e_invv3, e_call4, e_callv4, e_inv4, e_invv4, e_call5, e_callv5, e_inv5, e_invv5, e_call6, e_callv6, e_inv6, e_invv6, e_call7, e_callv7, e_inv7, e_invv7, e_call8, e_callv8, e_inv8, e_invv8, e_ret, e_retz, e_retc, e_retb, e_retv, e_skip, e_sco, e_tlen, e_tat, e_iz_eq0, e_iz_eq1, e_iz_ne0, e_iz_ne1, add0, sc_d, sc_t, inI_e, inL_e, up_eq, true_or, or_true, or_false, false_or, and_true, true_and, not_false_eq_true, Int.reduceAdd, Int.reduceSub, Int.reduceMul, Int.reduceNeg]
    | with_reducible first | refine ic_ge (fun hc => ?_) (fun hc => ?_) | refine ic_lt (fun hc => ?_) (fun hc => ?_) | refine ic_ne (fun hc => ?_) (fun hc => ?_) | refine ic_eq (fun hc => ?_) (fun hc => ?_) | refine ic_le (fun hc => ?_) (fun hc => ?_) | refine ic_gt (fun hc => ?_) (fun hc => ?_) | refine iz_eq (fun hc => ?_) (fun hc => ?_) | refine iz_ne (fun hc => ?_) (fun hc => ?_) | refine iz_lt (fun hc => ?_) (fun hc => ?_) | refine iz_ge (fun hc => ?_) (fun hc => ?_) | refine iz_gt (fun hc => ?_) (fun hc => ?_) | refine iz_le (fun hc => ?_) (fun hc => ?_) | refine iz_nu (fun hc => ?_) (fun hc => ?_) | refine iz_nn (fun hc => ?_) (fun hc => ?_)
    | omega
  · unfold L_X1_depthOf_15
    refine lpw (fun n l st h c s => ∃ i : Int, l = [a, t, cart, i] ∧ st = [] ∧ h = (L, R, F, E, N) ∧ 0 ≤ i ∧ i < C 0 0 0 ∧ (n : Int) = C 0 0 0 - i ∧ ∀ q : Int, 0 ≤ q → q < i → stepP C th cart q) ?_ (n := (C 0 0 0).toNat) ⟨0, rfl, rfl, rfl, by omega, by omega, by omega, fun c _ _ => by omega⟩
    rintro n k hk l st h c s ⟨i, rfl, rfl, rfl, hi, hi2, hn, hinv⟩
    repeat' first
      | exact absurd hc (by decide)
      | with_reducible refine sX_ringSuits hT hM hW hTt hm hth ?_ ?_ (fun hs2 => ?_) (fun hs2 => ?_)
      | with_reducible refine sX_someGateLets hT hM hW hTt hm hth (fun hg => ?_) (fun hg => ?_)
      | simp (disch := omega) only [ub_X1_depthOf_52, ue_X1_depthOf, t_X1_depthOf, zLg, zRf, zFq, zEl, zNz, zUf, zUe, zUr, zCe, zSn, gd_0, gd_1, gd_2, gd_3, gd_4, gd_5, gd_6, gd_7, gd_8, gd_9, gd_10, gd_11, gd_12, gd_13, gd_14, gd_15, gd_16, gd_17, gd_18, gd_19, se_0, se_1, se_2, se_3, se_4, se_5, se_6, se_7, se_8, se_9, se_10, se_11, se_12, se_13, se_14, se_15, se_16, se_17, se_18, se_19, e_const, e_load, e_store, e_iinc, e_dup, e_dup2, e_pop, e_iadd, e_isub, e_imul, e_ladd, e_lsub, e_lmul, e_iaddw, e_isubw, e_imulw, e_laddw, e_lsubw, e_lmulw, e_iand, e_ior, e_ishl, e_ishr, e_iushr, e_lcmp, e_imax, e_imin, e_idiv, e_irem, e_ldiv, e_lrem, e_i2l, e_i2b, e_l2i, e_i2c, e_getF, e_getR, e_putF, e_putR, e_putz, e_ald, e_aldR, e_ast, e_astb, e_astz, e_asta, e_len, e_acopy, e_new, e_newa, e_mna, e_this, e_room, e_call0, e_callv0, e_call1, e_callv1, e_inv1, e_invv1, e_call2, e_callv2, e_inv2, e_invv2, e_call3, e_callv3, e_inv3, e_invv3, e_call4, e_callv4, e_inv4, e_invv4, e_call5, e_callv5, e_inv5, e_invv5, e_call6, e_callv6, e_inv6, e_invv6, e_call7, e_callv7, e_inv7, e_invv7, e_call8, e_callv8, e_inv8, e_invv8, e_ret, e_retz, e_retc, e_retb, e_retv, e_skip, e_sco, e_tlen, e_tat, e_iz_eq0, e_iz_eq1, e_iz_ne0, e_iz_ne1, add0, sc_d, sc_t, inI_e, inL_e, up_eq, true_or, or_true, or_false, false_or, and_true, true_and, not_false_eq_true, Int.reduceAdd, Int.reduceSub, Int.reduceMul, Int.reduceNeg, cm_0 hM, cm_1 hM, cm_2 hM, cm_3 hM, cm_4 hM, cm_w hM, cm_g hM, cm_c hM, cm_s hM, cm_o hM]
      | with_reducible first | refine ic_ge (fun hc => ?_) (fun hc => ?_) | refine ic_lt (fun hc => ?_) (fun hc => ?_) | refine ic_ne (fun hc => ?_) (fun hc => ?_) | refine ic_eq (fun hc => ?_) (fun hc => ?_) | refine ic_le (fun hc => ?_) (fun hc => ?_) | refine ic_gt (fun hc => ?_) (fun hc => ?_) | refine iz_eq (fun hc => ?_) (fun hc => ?_) | refine iz_ne (fun hc => ?_) (fun hc => ?_) | refine iz_lt (fun hc => ?_) (fun hc => ?_) | refine iz_ge (fun hc => ?_) (fun hc => ?_) | refine iz_gt (fun hc => ?_) (fun hc => ?_) | refine iz_le (fun hc => ?_) (fun hc => ?_) | refine iz_nu (fun hc => ?_) (fun hc => ?_) | refine iz_nn (fun hc => ?_) (fun hc => ?_)
      | omega
    · refine hQ i (Or.inr ⟨hs, hi, hinv, fun z => ?_⟩) (by omega)
      obtain ⟨⟨g, z1, z2, z3, z4⟩, -⟩ := z
      have := cw_g0 hW g z1 z2
      omega
    · refine hk (n - 1) _ _ _ _ _ (by omega) ⟨i + 1, rfl, rfl, rfl, by omega, by omega, by omega, fun q z1 z2 => ?_⟩
      by_cases z : q = i
      · subst z
        refine ⟨hg, fun hc0 => ?_⟩
        unfold suitP at hs2
        rw [if_neg hc0] at hs2
        exact hs2
      · exact hinv q z1 (by omega)
    · exact hQ i (Or.inr ⟨hs, hi, hinv, fun z => hg z.1⟩) (by omega)
    · refine hQ i (Or.inr ⟨hs, hi, hinv, fun z => hs2 ?_⟩) (by omega)
      unfold suitP
      obtain ⟨⟨g, z1, z2, z3, z4⟩, z5⟩ := z
      split
      · rw [← z3]; exact (open_fits z4).2
      · next hc0 => exact z5 hc0
  · exact hQ (-2) (Or.inl ⟨hs, rfl⟩) (by omega)
theorem sX_daysOf (hT : ctT a L R) (hM : ctM a C F E) (hW : ctW C) (hQ : Q (holdP C r) (L, R, F, E, N)) : T_X1_daysOf [a, r] (L, R, F, E, N) Q := by
  have pa := ct_p hT
  have b0 := cw_0 hW
  simp (disch := omega) only [ub_X1_daysOf_69, ub_X1_daysOf_48, ue_X1_daysOf, t_X1_daysOf, zLg, zRf, zFq, zEl, zNz, zUf, zUe, zUr, zCe, zSn, gd_0, gd_1, gd_2, gd_3, gd_4, gd_5, gd_6, gd_7, gd_8, gd_9, gd_10, gd_11, gd_12, gd_13, gd_14, gd_15, gd_16, gd_17, gd_18, gd_19, se_0, se_1, se_2, se_3, se_4, se_5, se_6, se_7, se_8, se_9, se_10, se_11, se_12, se_13, se_14, se_15, se_16, se_17, se_18, se_19, e_const, e_load, e_store, e_iinc, e_dup, e_dup2, e_pop, e_iadd, e_isub, e_imul, e_ladd, e_lsub, e_lmul, e_iaddw, e_isubw, e_imulw, e_laddw, e_lsubw, e_lmulw, e_iand, e_ior, e_ishl, e_ishr, e_iushr, e_lcmp, e_imax, e_imin, e_idiv, e_irem, e_ldiv, e_lrem, e_i2l, e_i2b, e_l2i, e_i2c, e_getF, e_getR, e_putF, e_putR, e_putz, e_ald, e_aldR, e_ast, e_astb, e_astz, e_asta, e_len, e_acopy, e_new, e_newa, e_mna, e_this, e_room, e_call0, e_callv0, e_call1, e_callv1, e_inv1, e_invv1, e_call2, e_callv2, e_inv2, e_invv2, e_call3, e_callv3, e_inv3, e_invv3, e_call4, e_callv4, e_inv4, e_invv4, e_call5, e_callv5, e_inv5, e_invv5, e_call6, e_callv6, e_inv6, e_invv6, e_call7, e_callv7, e_inv7, e_invv7, e_call8, e_callv8, e_inv8, e_invv8, e_ret, e_retz, e_retc, e_retb, e_retv, e_skip, e_sco, e_tlen, e_tat, e_iz_eq0, e_iz_eq1, e_iz_ne0, e_iz_ne1, add0, sc_d, sc_t, inI_e, inL_e, up_eq, true_or, or_true, or_false, false_or, and_true, true_and, not_false_eq_true, Int.reduceAdd, Int.reduceSub, Int.reduceMul, Int.reduceNeg]
  unfold L_X1_daysOf_7
  refine lpw (fun n l st h c s => ∃ i : Int, l = [a, r, sumP (fun q => if r ≤ q then C 4 q 1 else 0) i.toNat, sumP (fun q => C 4 q 2) i.toNat, i] ∧ st = [] ∧ h = (L, R, F, E, N) ∧ 0 ≤ i ∧ i ≤ C 0 0 0 ∧ (n : Int) = C 0 0 0 - i) ?_ (n := (C 0 0 0).toNat) ⟨0, rfl, rfl, rfl, by omega, by omega, by omega⟩
  rintro n k hk l st h c s ⟨i, rfl, rfl, rfl, hi, hi2, hn⟩
  have s1 := sumP_b (f := fun q => C 4 q 2) (M := 999) (by omega) i.toNat (fun k k1 k2 => by have := cw_s2 hW k k1 (by omega); exact ⟨this.1, by omega⟩)
  have s2 := sumP_b (f := fun q => if r ≤ q then C 4 q 1 else 0) (M := 999) (by omega) i.toNat (fun k k1 k2 => by have := cw_s1 hW k k1 (by omega); split <;> omega)
  have e1 := sumP_s (f := fun q => C 4 q 2) hi
  have e2 := sumP_s (f := fun q => if r ≤ q then C 4 q 1 else 0) hi
  by_cases hlt : i < C 0 0 0
  · have t1 := cw_s1 hW i hi hlt
    have t2 := cw_s2 hW i hi hlt
    repeat' first
      | exact absurd hc (by decide)
      | simp (disch := omega) only [ub_X1_daysOf_69, ub_X1_daysOf_48, ue_X1_daysOf, t_X1_daysOf, zLg, zRf, zFq, zEl, zNz, zUf, zUe, zUr, zCe, zSn, gd_0, gd_1, gd_2, gd_3, gd_4, gd_5, gd_6, gd_7, gd_8, gd_9, gd_10, gd_11, gd_12, gd_13, gd_14, gd_15, gd_16, gd_17, gd_18, gd_19, se_0, se_1, se_2, se_3, se_4, se_5, se_6, se_7, se_8, se_9, se_10, se_11, se_12, se_13, se_14, se_15, se_16, se_17, se_18, se_19, e_const, e_load, e_store, e_iinc, e_dup, e_dup2, e_pop, e_iadd, e_isub, e_imul, e_ladd, e_lsub, e_lmul, e_iaddw, e_isubw, e_imulw, e_laddw, e_lsubw, e_lmulw, e_iand, e_ior, e_ishl, e_ishr, e_iushr, e_lcmp, e_imax, e_imin, e_idiv, e_irem, e_ldiv, e_lrem, e_i2l, e_i2b, e_l2i, e_i2c, e_getF, e_getR, e_putF, e_putR, e_putz, e_ald, e_aldR, e_ast, e_astb, e_astz, e_asta, e_len, e_acopy, e_new, e_newa, e_mna, e_this, e_room, e_call0, e_callv0, e_call1, e_callv1, e_inv1, e_invv1, e_call2, e_callv2, e_inv2, e_invv2, e_call3, e_callv3, e_inv3, e_invv3, e_call4, e_callv4, e_inv4, e_invv4, e_call5, e_callv5, e_inv5, e_invv5, e_call6, e_callv6, e_inv6, e_invv6, e_call7, e_callv7, e_inv7, e_invv7, e_call8, e_callv8, e_inv8, e_invv8, e_ret, e_retz, e_retc, e_retb, e_retv, e_skip, e_sco, e_tlen, e_tat, e_iz_eq0, e_iz_eq1, e_iz_ne0, e_iz_ne1, add0, sc_d, sc_t, inI_e, inL_e, up_eq, true_or, or_true, or_false, false_or, and_true, true_and, not_false_eq_true, Int.reduceAdd, Int.reduceSub, Int.reduceMul, Int.reduceNeg, ct_5 hT, ct_6 hT, ct_7 hT, ct_8 hT, ct_9 hT, ct_10 hT, ct_11 hT, ct_l1 hT, ct_l2 hT, ct_l14 hT, ct_l23 hT, ct_l30 hT, ct_l39 hT, ct_l40 hT, ct_gr hT, ct_gl hT, ct_cr hT, ct_cl hT, ct_sr hT, ct_sl hT, ct_or hT, ct_ol hT, ct_wr hT, ct_pr hT, cm_0 hM, cm_1 hM, cm_2 hM, cm_3 hM, cm_4 hM, cm_w hM, cm_g hM, cm_c hM, cm_s hM, cm_o hM]
      | with_reducible first | refine ic_ge (fun hc => ?_) (fun hc => ?_) | refine ic_lt (fun hc => ?_) (fun hc => ?_) | refine ic_ne (fun hc => ?_) (fun hc => ?_) | refine ic_eq (fun hc => ?_) (fun hc => ?_) | refine ic_le (fun hc => ?_) (fun hc => ?_) | refine ic_gt (fun hc => ?_) (fun hc => ?_) | refine iz_eq (fun hc => ?_) (fun hc => ?_) | refine iz_ne (fun hc => ?_) (fun hc => ?_) | refine iz_lt (fun hc => ?_) (fun hc => ?_) | refine iz_ge (fun hc => ?_) (fun hc => ?_) | refine iz_gt (fun hc => ?_) (fun hc => ?_) | refine iz_le (fun hc => ?_) (fun hc => ?_) | refine iz_nu (fun hc => ?_) (fun hc => ?_) | refine iz_nn (fun hc => ?_) (fun hc => ?_)
      | omega
    · refine hk (n - 1) _ _ _ _ _ (by omega) ⟨i + 1, ?_, rfl, rfl, by omega, by omega, by omega⟩
      rw [e1, e2, if_neg (by omega)]
    · refine hk (n - 1) _ _ _ _ _ (by omega) ⟨i + 1, ?_, rfl, rfl, by omega, by omega, by omega⟩
      rw [e1, e2, if_pos (by omega)]
  · have hie : i = C 0 0 0 := by omega
    unfold holdP at hQ
    rw [← hie] at hQ
    repeat' first
      | exact absurd hc (by decide)
      | simp (disch := omega) only [ub_X1_daysOf_69, ub_X1_daysOf_48, ue_X1_daysOf, t_X1_daysOf, zLg, zRf, zFq, zEl, zNz, zUf, zUe, zUr, zCe, zSn, gd_0, gd_1, gd_2, gd_3, gd_4, gd_5, gd_6, gd_7, gd_8, gd_9, gd_10, gd_11, gd_12, gd_13, gd_14, gd_15, gd_16, gd_17, gd_18, gd_19, se_0, se_1, se_2, se_3, se_4, se_5, se_6, se_7, se_8, se_9, se_10, se_11, se_12, se_13, se_14, se_15, se_16, se_17, se_18, se_19, e_const, e_load, e_store, e_iinc, e_dup, e_dup2, e_pop, e_iadd, e_isub, e_imul, e_ladd, e_lsub, e_lmul, e_iaddw, e_isubw, e_imulw, e_laddw, e_lsubw, e_lmulw, e_iand, e_ior, e_ishl, e_ishr, e_iushr, e_lcmp, e_imax, e_imin, e_idiv, e_irem, e_ldiv, e_lrem, e_i2l, e_i2b, e_l2i, e_i2c, e_getF, e_getR, e_putF, e_putR, e_putz, e_ald, e_aldR, e_ast, e_astb, e_astz, e_asta, e_len, e_acopy, e_new, e_newa, e_mna, e_this, e_room, e_call0, e_callv0, e_call1, e_callv1, e_inv1, e_invv1, e_call2, e_callv2, e_inv2, e_invv2, e_call3, e_callv3, e_inv3, e_invv3, e_call4, e_callv4, e_inv4, e_invv4, e_call5, e_callv5, e_inv5, e_invv5, e_call6, e_callv6, e_inv6, e_invv6, e_call7, e_callv7, e_inv7, e_invv7, e_call8, e_callv8, e_inv8, e_invv8, e_ret, e_retz, e_retc, e_retb, e_retv, e_skip, e_sco, e_tlen, e_tat, e_iz_eq0, e_iz_eq1, e_iz_ne0, e_iz_ne1, add0, sc_d, sc_t, inI_e, inL_e, up_eq, true_or, or_true, or_false, false_or, and_true, true_and, not_false_eq_true, Int.reduceAdd, Int.reduceSub, Int.reduceMul, Int.reduceNeg, ct_5 hT, ct_6 hT, ct_7 hT, ct_8 hT, ct_9 hT, ct_10 hT, ct_11 hT, ct_l1 hT, ct_l2 hT, ct_l14 hT, ct_l23 hT, ct_l30 hT, ct_l39 hT, ct_l40 hT, ct_gr hT, ct_gl hT, ct_cr hT, ct_cl hT, ct_sr hT, ct_sl hT, ct_or hT, ct_ol hT, ct_wr hT, ct_pr hT, cm_0 hM, cm_1 hM, cm_2 hM, cm_3 hM, cm_4 hM, cm_w hM, cm_g hM, cm_c hM, cm_s hM, cm_o hM]
      | with_reducible first | refine ic_ge (fun hc => ?_) (fun hc => ?_) | refine ic_lt (fun hc => ?_) (fun hc => ?_) | refine ic_ne (fun hc => ?_) (fun hc => ?_) | refine ic_eq (fun hc => ?_) (fun hc => ?_) | refine ic_le (fun hc => ?_) (fun hc => ?_) | refine ic_gt (fun hc => ?_) (fun hc => ?_) | refine iz_eq (fun hc => ?_) (fun hc => ?_) | refine iz_ne (fun hc => ?_) (fun hc => ?_) | refine iz_lt (fun hc => ?_) (fun hc => ?_) | refine iz_ge (fun hc => ?_) (fun hc => ?_) | refine iz_gt (fun hc => ?_) (fun hc => ?_) | refine iz_le (fun hc => ?_) (fun hc => ?_) | refine iz_nu (fun hc => ?_) (fun hc => ?_) | refine iz_nn (fun hc => ?_) (fun hc => ?_)
      | omega
    · rw [if_neg (by omega)] at hQ; exact hQ
    · rw [if_pos (by omega)] at hQ; exact hQ
theorem sM_holds (hT : mtT m L R) (hTc : mcT c L R) (hRc : R m 3 = c) (hM : mM m c C F E) (hW : ctW C) (hQ : Q (holdP C r) (L, R, F, E, N)) : T_X10_holds [m, r] (L, R, F, E, N) Q := by
  have pm := mt_p hT
  have pc := mc_p hTc
  have b0 := cw_0 hW
  simp (disch := omega) only [ub_X10_holds_74, ub_X10_holds_40, ue_X10_holds, t_X10_holds, zLg, zRf, zFq, zEl, zNz, zUf, zUe, zUr, zCe, zSn, gd_0, gd_1, gd_2, gd_3, gd_4, gd_5, gd_6, gd_7, gd_8, gd_9, gd_10, gd_11, gd_12, gd_13, gd_14, gd_15, gd_16, gd_17, gd_18, gd_19, se_0, se_1, se_2, se_3, se_4, se_5, se_6, se_7, se_8, se_9, se_10, se_11, se_12, se_13, se_14, se_15, se_16, se_17, se_18, se_19, e_const, e_load, e_store, e_iinc, e_dup, e_dup2, e_pop, e_iadd, e_isub, e_imul, e_ladd, e_lsub, e_lmul, e_iaddw, e_isubw, e_imulw, e_laddw, e_lsubw, e_lmulw, e_iand, e_ior, e_ishl, e_ishr, e_iushr, e_lcmp, e_imax, e_imin, e_idiv, e_irem, e_ldiv, e_lrem, e_i2l, e_i2b, e_l2i, e_i2c, e_getF, e_getR, e_putF, e_putR, e_putz, e_ald, e_aldR, e_ast, e_astb, e_astz, e_asta, e_len, e_acopy, e_new, e_newa, e_mna, e_this, e_room, e_call0, e_callv0, e_call1, e_callv1, e_inv1, e_invv1, e_call2, e_callv2, e_inv2, e_invv2, e_call3, e_callv3, e_inv3, e_invv3, e_call4, e_callv4, e_inv4, e_invv4, e_call5, e_callv5, e_inv5, e_invv5, e_call6, e_callv6, e_inv6, e_invv6, e_call7, e_callv7, e_inv7, e_invv7, e_call8, e_callv8, e_inv8, e_invv8, e_ret, e_retz, e_retc, e_retb, e_retv, e_skip, e_sco, e_tlen, e_tat, e_iz_eq0, e_iz_eq1, e_iz_ne0, e_iz_ne1, add0, sc_d, sc_t, inI_e, inL_e, up_eq, true_or, or_true, or_false, false_or, and_true, true_and, not_false_eq_true, Int.reduceAdd, Int.reduceSub, Int.reduceMul, Int.reduceNeg]
  unfold L_X10_holds_7
  refine lpw (fun n l st h c s => ∃ i : Int, l = [m, r, sumP (fun q => if r ≤ q then C 4 q 1 else 0) i.toNat, sumP (fun q => C 4 q 2) i.toNat, i] ∧ st = [] ∧ h = (L, R, F, E, N) ∧ 0 ≤ i ∧ i ≤ C 0 0 0 ∧ (n : Int) = C 0 0 0 - i) ?_ (n := (C 0 0 0).toNat) ⟨0, rfl, rfl, rfl, by omega, by omega, by omega⟩
  rintro n k hk l st h c9 s ⟨i, rfl, rfl, rfl, hi, hi2, hn⟩
  have s1 := sumP_b (f := fun q => C 4 q 2) (M := 999) (by omega) i.toNat (fun k k1 k2 => by have := cw_s2 hW k k1 (by omega); exact ⟨this.1, by omega⟩)
  have s2 := sumP_b (f := fun q => if r ≤ q then C 4 q 1 else 0) (M := 999) (by omega) i.toNat (fun k k1 k2 => by have := cw_s1 hW k k1 (by omega); split <;> omega)
  have e1 := sumP_s (f := fun q => C 4 q 2) hi
  have e2 := sumP_s (f := fun q => if r ≤ q then C 4 q 1 else 0) hi
  by_cases hlt : i < C 0 0 0
  · have t1 := cw_s1 hW i hi hlt
    have t2 := cw_s2 hW i hi hlt
    repeat' first
      | exact absurd hc (by decide)
      | simp (disch := omega) only [ub_X10_holds_74, ub_X10_holds_40, ue_X10_holds, t_X10_holds, zLg, zRf, zFq, zEl, zNz, zUf, zUe, zUr, zCe, zSn, gd_0, gd_1, gd_2, gd_3, gd_4, gd_5, gd_6, gd_7, gd_8, gd_9, gd_10, gd_11, gd_12, gd_13, gd_14, gd_15, gd_16, gd_17, gd_18, gd_19, se_0, se_1, se_2, se_3, se_4, se_5, se_6, se_7, se_8, se_9, se_10, se_11, se_12, se_13, se_14, se_15, se_16, se_17, se_18, se_19, e_const, e_load, e_store, e_iinc, e_dup, e_dup2, e_pop, e_iadd, e_isub, e_imul, e_ladd, e_lsub, e_lmul, e_iaddw, e_isubw, e_imulw, e_laddw, e_lsubw, e_lmulw, e_iand, e_ior, e_ishl, e_ishr, e_iushr, e_lcmp, e_imax, e_imin, e_idiv, e_irem, e_ldiv, e_lrem, e_i2l, e_i2b, e_l2i, e_i2c, e_getF, e_getR, e_putF, e_putR, e_putz, e_ald, e_aldR, e_ast, e_astb, e_astz, e_asta, e_len, e_acopy, e_new, e_newa, e_mna, e_this, e_room, e_call0, e_callv0, e_call1, e_callv1, e_inv1, e_invv1, e_call2, e_callv2, e_inv2, e_invv2, e_call3, e_callv3, e_inv3, e_invv3, e_call4, e_callv4, e_inv4, e_invv4, e_call5, e_callv5, e_inv5, e_invv5, e_call6, e_callv6, e_inv6, e_invv6, e_call7, e_callv7, e_inv7, e_invv7, e_call8, e_callv8, e_inv8, e_invv8, e_ret, e_retz, e_retc, e_retb, e_retv, e_skip, e_sco, e_tlen, e_tat, e_iz_eq0, e_iz_eq1, e_iz_ne0, e_iz_ne1, add0, sc_d, sc_t, inI_e, inL_e, up_eq, true_or, or_true, or_false, false_or, and_true, true_and, not_false_eq_true, Int.reduceAdd, Int.reduceSub, Int.reduceMul, Int.reduceNeg, hRc, mc_7 hTc, mc_8 hTc, mc_l2 hTc, mc_l3 hTc, mm_0 hM, mm_s1 hM, mm_s2 hM]
      | with_reducible first | refine ic_ge (fun hc => ?_) (fun hc => ?_) | refine ic_lt (fun hc => ?_) (fun hc => ?_) | refine ic_ne (fun hc => ?_) (fun hc => ?_) | refine ic_eq (fun hc => ?_) (fun hc => ?_) | refine ic_le (fun hc => ?_) (fun hc => ?_) | refine ic_gt (fun hc => ?_) (fun hc => ?_) | refine iz_eq (fun hc => ?_) (fun hc => ?_) | refine iz_ne (fun hc => ?_) (fun hc => ?_) | refine iz_lt (fun hc => ?_) (fun hc => ?_) | refine iz_ge (fun hc => ?_) (fun hc => ?_) | refine iz_gt (fun hc => ?_) (fun hc => ?_) | refine iz_le (fun hc => ?_) (fun hc => ?_) | refine iz_nu (fun hc => ?_) (fun hc => ?_) | refine iz_nn (fun hc => ?_) (fun hc => ?_)
      | omega
    · refine hk (n - 1) _ _ _ _ _ (by omega) ⟨i + 1, ?_, rfl, rfl, by omega, by omega, by omega⟩
      rw [e1, e2, if_neg (by omega)]
    · refine hk (n - 1) _ _ _ _ _ (by omega) ⟨i + 1, ?_, rfl, rfl, by omega, by omega, by omega⟩
      rw [e1, e2, if_pos (by omega)]
  · have hie : i = C 0 0 0 := by omega
    unfold holdP at hQ
    rw [← hie] at hQ
    repeat' first
      | exact absurd hc (by decide)
      | simp (disch := omega) only [ub_X10_holds_74, ub_X10_holds_40, ue_X10_holds, t_X10_holds, zLg, zRf, zFq, zEl, zNz, zUf, zUe, zUr, zCe, zSn, gd_0, gd_1, gd_2, gd_3, gd_4, gd_5, gd_6, gd_7, gd_8, gd_9, gd_10, gd_11, gd_12, gd_13, gd_14, gd_15, gd_16, gd_17, gd_18, gd_19, se_0, se_1, se_2, se_3, se_4, se_5, se_6, se_7, se_8, se_9, se_10, se_11, se_12, se_13, se_14, se_15, se_16, se_17, se_18, se_19, e_const, e_load, e_store, e_iinc, e_dup, e_dup2, e_pop, e_iadd, e_isub, e_imul, e_ladd, e_lsub, e_lmul, e_iaddw, e_isubw, e_imulw, e_laddw, e_lsubw, e_lmulw, e_iand, e_ior, e_ishl, e_ishr, e_iushr, e_lcmp, e_imax, e_imin, e_idiv, e_irem, e_ldiv, e_lrem, e_i2l, e_i2b, e_l2i, e_i2c, e_getF, e_getR, e_putF, e_putR, e_putz, e_ald, e_aldR, e_ast, e_astb, e_astz, e_asta, e_len, e_acopy, e_new, e_newa, e_mna, e_this, e_room, e_call0, e_callv0, e_call1, e_callv1, e_inv1, e_invv1, e_call2, e_callv2, e_inv2, e_invv2, e_call3, e_callv3, e_inv3, e_invv3, e_call4, e_callv4, e_inv4, e_invv4, e_call5, e_callv5, e_inv5, e_invv5, e_call6, e_callv6, e_inv6, e_invv6, e_call7, e_callv7, e_inv7, e_invv7, e_call8, e_callv8, e_inv8, e_invv8, e_ret, e_retz, e_retc, e_retb, e_retv, e_skip, e_sco, e_tlen, e_tat, e_iz_eq0, e_iz_eq1, e_iz_ne0, e_iz_ne1, add0, sc_d, sc_t, inI_e, inL_e, up_eq, true_or, or_true, or_false, false_or, and_true, true_and, not_false_eq_true, Int.reduceAdd, Int.reduceSub, Int.reduceMul, Int.reduceNeg, hRc, mc_7 hTc, mc_8 hTc, mc_l2 hTc, mc_l3 hTc, mm_0 hM, mm_s1 hM, mm_s2 hM]
      | with_reducible first | refine ic_ge (fun hc => ?_) (fun hc => ?_) | refine ic_lt (fun hc => ?_) (fun hc => ?_) | refine ic_ne (fun hc => ?_) (fun hc => ?_) | refine ic_eq (fun hc => ?_) (fun hc => ?_) | refine ic_le (fun hc => ?_) (fun hc => ?_) | refine ic_gt (fun hc => ?_) (fun hc => ?_) | refine iz_eq (fun hc => ?_) (fun hc => ?_) | refine iz_ne (fun hc => ?_) (fun hc => ?_) | refine iz_lt (fun hc => ?_) (fun hc => ?_) | refine iz_ge (fun hc => ?_) (fun hc => ?_) | refine iz_gt (fun hc => ?_) (fun hc => ?_) | refine iz_le (fun hc => ?_) (fun hc => ?_) | refine iz_nu (fun hc => ?_) (fun hc => ?_) | refine iz_nn (fun hc => ?_) (fun hc => ?_)
      | omega
    · rw [if_neg (by omega)] at hQ; exact hQ
    · rw [if_pos (by omega)] at hQ; exact hQ
theorem sM_deepestNow (hT : mtT m L R) (hTc : mcT c L R) (hRc : R m 3 = c) (hM : mM m c C F E) (hW : ctW C) (hS : scM m th F) (hth : thW th) (hr : 0 < C 0 0 0) (hQ : ∀ d : Int, deepP C th 1 d → Q d (L, R, F, E, N)) : T_X10_deepestNow [m] (L, R, F, E, N) Q := by
  have pm := mt_p hT
  have pc := mc_p hTc
  have b0 := cw_0 hW
  have b1 := cw_1 hW
  repeat' first
    | exact absurd hc (by decide)
    | with_reducible refine sM_isBorne hT hTc hRc hM hW hS hth ?_ ?_ (fun hs => ?_) (fun hs => ?_)
    | simp (disch := omega) only [ub_X10_deepestNow_85, ub_X10_deepestNow_68, ub_X10_deepestNow_63, ub_X10_deepestNow_67, ue_X10_deepestNow, t_X10_deepestNow, zLg, zRf, zFq, zEl, zNz, zUf, zUe, zUr, zCe, zSn, gd_0, gd_1, gd_2, gd_3, gd_4, gd_5, gd_6, gd_7, gd_8, gd_9, gd_10, gd_11, gd_12, gd_13, gd_14, gd_15, gd_16, gd_17, gd_18, gd_19, se_0, se_1, se_2, se_3, se_4, se_5, se_6, se_7, se_8, se_9, se_10, se_11, se_12, se_13, se_14, se_15, se_16, se_17, se_18, se_19, e_const, e_load, e_store, e_iinc, e_dup, e_dup2, e_pop, e_iadd, e_isub, e_imul, e_ladd, e_lsub, e_lmul, e_iaddw, e_isubw, e_imulw, e_laddw, e_lsubw, e_lmulw, e_iand, e_ior, e_ishl, e_ishr, e_iushr, e_lcmp, e_imax, e_imin, e_idiv, e_irem, e_ldiv, e_lrem, e_i2l, e_i2b, e_l2i, e_i2c, e_getF, e_getR, e_putF, e_putR, e_putz, e_ald, e_aldR, e_ast, e_astb, e_astz, e_asta, e_len, e_acopy, e_new, e_newa, e_mna, e_this, e_room, e_call0, e_callv0, e_call1, e_callv1, e_inv1, e_invv1, e_call2, e_callv2, e_inv2, e_invv2, e_call3, e_callv3, e_inv3, e_invv3, e_call4, e_callv4, e_inv4, e_invv4, e_call5, e_callv5, e_inv5, e_invv5, e_call6, e_callv6, e_inv6, e_invv6, e_call7, e_callv7, e_inv7, e_invv7, e_call8, e_callv8, e_inv8, e_invv8, e_ret, e_retz, e_retc, e_retb, e_retv, e_skip, e_sco, e_tlen, e_tat, e_iz_eq0, e_iz_eq1, e_iz_ne0, e_iz_ne1, add0, sc_d, sc_t, inI_e, inL_e, up_eq, true_or, or_true, or_false, false_or, and_true, true_and, not_false_eq_true, Int.reduceAdd, Int.reduceSub, Int.reduceMul, Int.reduceNeg]
    | with_reducible first | refine ic_ge (fun hc => ?_) (fun hc => ?_) | refine ic_lt (fun hc => ?_) (fun hc => ?_) | refine ic_ne (fun hc => ?_) (fun hc => ?_) | refine ic_eq (fun hc => ?_) (fun hc => ?_) | refine ic_le (fun hc => ?_) (fun hc => ?_) | refine ic_gt (fun hc => ?_) (fun hc => ?_) | refine iz_eq (fun hc => ?_) (fun hc => ?_) | refine iz_ne (fun hc => ?_) (fun hc => ?_) | refine iz_lt (fun hc => ?_) (fun hc => ?_) | refine iz_ge (fun hc => ?_) (fun hc => ?_) | refine iz_gt (fun hc => ?_) (fun hc => ?_) | refine iz_le (fun hc => ?_) (fun hc => ?_) | refine iz_nu (fun hc => ?_) (fun hc => ?_) | refine iz_nn (fun hc => ?_) (fun hc => ?_)
    | omega
  · have hsu : suitP C th 1 0 := by unfold suitP; rw [if_neg (by decide)]; exact hs
    unfold L_X10_deepestNow_15
    refine lpw (fun n l st h c s => ∃ r v i : Int, l = [m, r, v, i] ∧ st = [] ∧ h = (L, R, F, E, N) ∧ 0 ≤ r ∧ r < C 0 0 0 ∧ (∀ q : Int, 0 ≤ q → q < r → stepP C th 1 q) ∧ ((v = 1 ∧ (n : Int) = C 0 0 0 - r) ∨ (v = 0 ∧ ¬ stepP C th 1 r))) ?_ (n := (C 0 0 0).toNat) ⟨0, 1, 0, rfl, rfl, rfl, by omega, by omega, fun c _ _ => by omega, Or.inl ⟨rfl, by omega⟩⟩
    rintro n k hk l st h c9 s ⟨r, v, i, rfl, rfl, rfl, hr0, hr1, hinv, hv⟩
    repeat' first
      | exact absurd hc (by decide)
      | simp (disch := omega) only [ub_X10_deepestNow_85, ub_X10_deepestNow_68, ub_X10_deepestNow_63, ub_X10_deepestNow_67, ue_X10_deepestNow, t_X10_deepestNow, zLg, zRf, zFq, zEl, zNz, zUf, zUe, zUr, zCe, zSn, gd_0, gd_1, gd_2, gd_3, gd_4, gd_5, gd_6, gd_7, gd_8, gd_9, gd_10, gd_11, gd_12, gd_13, gd_14, gd_15, gd_16, gd_17, gd_18, gd_19, se_0, se_1, se_2, se_3, se_4, se_5, se_6, se_7, se_8, se_9, se_10, se_11, se_12, se_13, se_14, se_15, se_16, se_17, se_18, se_19, e_const, e_load, e_store, e_iinc, e_dup, e_dup2, e_pop, e_iadd, e_isub, e_imul, e_ladd, e_lsub, e_lmul, e_iaddw, e_isubw, e_imulw, e_laddw, e_lsubw, e_lmulw, e_iand, e_ior, e_ishl, e_ishr, e_iushr, e_lcmp, e_imax, e_imin, e_idiv, e_irem, e_ldiv, e_lrem, e_i2l, e_i2b, e_l2i, e_i2c, e_getF, e_getR, e_putF, e_putR, e_putz, e_ald, e_aldR, e_ast, e_astb, e_astz, e_asta, e_len, e_acopy, e_new, e_newa, e_mna, e_this, e_room, e_call0, e_callv0, e_call1, e_callv1, e_inv1, e_invv1, e_call2, e_callv2, e_inv2, e_invv2, e_call3, e_callv3, e_inv3, e_invv3, e_call4, e_callv4, e_inv4, e_invv4, e_call5, e_callv5, e_inv5, e_invv5, e_call6, e_callv6, e_inv6, e_invv6, e_call7, e_callv7, e_inv7, e_invv7, e_call8, e_callv8, e_inv8, e_invv8, e_ret, e_retz, e_retc, e_retb, e_retv, e_skip, e_sco, e_tlen, e_tat, e_iz_eq0, e_iz_eq1, e_iz_ne0, e_iz_ne1, add0, sc_d, sc_t, inI_e, inL_e, up_eq, true_or, or_true, or_false, false_or, and_true, true_and, not_false_eq_true, Int.reduceAdd, Int.reduceSub, Int.reduceMul, Int.reduceNeg]
      | with_reducible first | refine ic_ge (fun hc => ?_) (fun hc => ?_) | refine ic_lt (fun hc => ?_) (fun hc => ?_) | refine ic_ne (fun hc => ?_) (fun hc => ?_) | refine ic_eq (fun hc => ?_) (fun hc => ?_) | refine ic_le (fun hc => ?_) (fun hc => ?_) | refine ic_gt (fun hc => ?_) (fun hc => ?_) | refine iz_eq (fun hc => ?_) (fun hc => ?_) | refine iz_ne (fun hc => ?_) (fun hc => ?_) | refine iz_lt (fun hc => ?_) (fun hc => ?_) | refine iz_ge (fun hc => ?_) (fun hc => ?_) | refine iz_gt (fun hc => ?_) (fun hc => ?_) | refine iz_le (fun hc => ?_) (fun hc => ?_) | refine iz_nu (fun hc => ?_) (fun hc => ?_) | refine iz_nn (fun hc => ?_) (fun hc => ?_)
      | omega
    · rcases hv with ⟨v1, v2⟩ | ⟨v1, v2⟩
      · omega
      · exact hQ r (Or.inr ⟨hsu, hr0, hinv, v2⟩)
    · rcases hv with ⟨v1, v2⟩ | ⟨v1, v2⟩
      · unfold L_X10_deepestNow_23
        refine lpw (fun n l st h c s => ∃ v i : Int, l = [m, r, v, i] ∧ st = [] ∧ h = (L, R, F, E, N) ∧ 0 ≤ i ∧ (n : Int) = C 0 1 0 - i ∧ ((v = 1 ∧ stepP C th 1 r) ∨ (v = 0 ∧ ∀ q : Int, 0 ≤ q → q < i → ¬ (C 2 q 0 = r ∧ openP C th q ∧ bornP C th (r + 1))))) ?_ (n := (C 0 1 0).toNat) ⟨0, 0, rfl, rfl, rfl, by omega, by omega, Or.inr ⟨rfl, fun c _ _ => by omega⟩⟩
        rintro n2 k2 hk2 l st h c8 s2 ⟨w, j, rfl, rfl, rfl, hj, hn2, hw⟩
        have hnx : ∀ q : Int, 0 ≤ q → q < C 0 1 0 → C 2 q 0 = r → r + 1 < C 0 0 0 := fun q q1 q2 q3 => by have := cw_g0 hW q q1 q2; omega
        by_cases hj2 : j < C 0 1 0
        · have hg0 := cw_g0 hW j hj hj2
          repeat' first
            | exact absurd hc (by decide)
            | with_reducible refine sM_of hT hM hW ?_ ?_ ?_ ?_ ?_
            | with_reducible refine sM_goesThrough hT hTc hRc hM hW (sm_d hS) hth ?_ ?_ (fun ho => ?_) (fun ho => ?_)
            | with_reducible refine sM_isBorne hT hTc hRc hM hW hS hth ?_ ?_ (fun hb => ?_) (fun hb => ?_)
            | simp (disch := omega) only [ub_X10_deepestNow_85, ub_X10_deepestNow_68, ub_X10_deepestNow_63, ub_X10_deepestNow_67, ue_X10_deepestNow, t_X10_deepestNow, zLg, zRf, zFq, zEl, zNz, zUf, zUe, zUr, zCe, zSn, gd_0, gd_1, gd_2, gd_3, gd_4, gd_5, gd_6, gd_7, gd_8, gd_9, gd_10, gd_11, gd_12, gd_13, gd_14, gd_15, gd_16, gd_17, gd_18, gd_19, se_0, se_1, se_2, se_3, se_4, se_5, se_6, se_7, se_8, se_9, se_10, se_11, se_12, se_13, se_14, se_15, se_16, se_17, se_18, se_19, e_const, e_load, e_store, e_iinc, e_dup, e_dup2, e_pop, e_iadd, e_isub, e_imul, e_ladd, e_lsub, e_lmul, e_iaddw, e_isubw, e_imulw, e_laddw, e_lsubw, e_lmulw, e_iand, e_ior, e_ishl, e_ishr, e_iushr, e_lcmp, e_imax, e_imin, e_idiv, e_irem, e_ldiv, e_lrem, e_i2l, e_i2b, e_l2i, e_i2c, e_getF, e_getR, e_putF, e_putR, e_putz, e_ald, e_aldR, e_ast, e_astb, e_astz, e_asta, e_len, e_acopy, e_new, e_newa, e_mna, e_this, e_room, e_call0, e_callv0, e_call1, e_callv1, e_inv1, e_invv1, e_call2, e_callv2, e_inv2, e_invv2, e_call3, e_callv3, e_inv3, e_invv3, e_call4, e_callv4, e_inv4, e_invv4, e_call5, e_callv5, e_inv5, e_invv5, e_call6, e_callv6, e_inv6, e_invv6, e_call7, e_callv7, e_inv7, e_invv7, e_call8, e_callv8, e_inv8, e_invv8, e_ret, e_retz, e_retc, e_retb, e_retv, e_skip, e_sco, e_tlen, e_tat, e_iz_eq0, e_iz_eq1, e_iz_ne0, e_iz_ne1, add0, sc_d, sc_t, inI_e, inL_e, up_eq, true_or, or_true, or_false, false_or, and_true, true_and, not_false_eq_true, Int.reduceAdd, Int.reduceSub, Int.reduceMul, Int.reduceNeg, mm_1 hM]
            | with_reducible first | refine ic_ge (fun hc => ?_) (fun hc => ?_) | refine ic_lt (fun hc => ?_) (fun hc => ?_) | refine ic_ne (fun hc => ?_) (fun hc => ?_) | refine ic_eq (fun hc => ?_) (fun hc => ?_) | refine ic_le (fun hc => ?_) (fun hc => ?_) | refine ic_gt (fun hc => ?_) (fun hc => ?_) | refine iz_eq (fun hc => ?_) (fun hc => ?_) | refine iz_ne (fun hc => ?_) (fun hc => ?_) | refine iz_lt (fun hc => ?_) (fun hc => ?_) | refine iz_ge (fun hc => ?_) (fun hc => ?_) | refine iz_gt (fun hc => ?_) (fun hc => ?_) | refine iz_le (fun hc => ?_) (fun hc => ?_) | refine iz_nu (fun hc => ?_) (fun hc => ?_) | refine iz_nn (fun hc => ?_) (fun hc => ?_)
            | omega
          all_goals first
            | (exfalso; omega)
            | skip
          · rcases hw with ⟨w1, w2⟩ | ⟨w1, w2⟩
            · exact hk2 (n2 - 1) _ _ _ _ _ (by omega) ⟨1, j + 1, rfl, rfl, rfl, by omega, by omega, Or.inl ⟨rfl, w2⟩⟩
            · omega
          all_goals
            rcases hw with ⟨w1, w2⟩ | ⟨w1, w2⟩
            · omega
          · refine hk2 (n2 - 1) _ _ _ _ _ (by omega) ⟨0, j + 1, rfl, rfl, rfl, by omega, by omega, Or.inr ⟨rfl, fun q z1 z2 => ?_⟩⟩
            by_cases z : q = j
            · subst z; exact fun y => hc y.1
            · exact w2 q z1 (by omega)
          · exact hk2 (n2 - 1) _ _ _ _ _ (by omega) ⟨1, j + 1, rfl, rfl, rfl, by omega, by omega, Or.inl ⟨rfl, ⟨j, hj, hj2, by omega, ho⟩, fun _ => hb⟩⟩
          · refine hk2 (n2 - 1) _ _ _ _ _ (by omega) ⟨0, j + 1, rfl, rfl, rfl, by omega, by omega, Or.inr ⟨rfl, fun q z1 z2 => ?_⟩⟩
            by_cases z : q = j
            · subst z; exact fun y => hb y.2.2
            · exact w2 q z1 (by omega)
          · refine hk2 (n2 - 1) _ _ _ _ _ (by omega) ⟨0, j + 1, rfl, rfl, rfl, by omega, by omega, Or.inr ⟨rfl, fun q z1 z2 => ?_⟩⟩
            by_cases z : q = j
            · subst z; exact fun y => ho y.2.1
            · exact w2 q z1 (by omega)
        · repeat' first
            | with_reducible first | refine ic_ge (fun hc => ?_) (fun hc => ?_) | refine ic_lt (fun hc => ?_) (fun hc => ?_) | refine ic_ne (fun hc => ?_) (fun hc => ?_) | refine ic_eq (fun hc => ?_) (fun hc => ?_) | refine ic_le (fun hc => ?_) (fun hc => ?_) | refine ic_gt (fun hc => ?_) (fun hc => ?_) | refine iz_eq (fun hc => ?_) (fun hc => ?_) | refine iz_ne (fun hc => ?_) (fun hc => ?_) | refine iz_lt (fun hc => ?_) (fun hc => ?_) | refine iz_ge (fun hc => ?_) (fun hc => ?_) | refine iz_gt (fun hc => ?_) (fun hc => ?_) | refine iz_le (fun hc => ?_) (fun hc => ?_) | refine iz_nu (fun hc => ?_) (fun hc => ?_) | refine iz_nn (fun hc => ?_) (fun hc => ?_)
            | simp (disch := omega) only [ub_X10_deepestNow_85, ub_X10_deepestNow_68, ub_X10_deepestNow_63, ub_X10_deepestNow_67, ue_X10_deepestNow, t_X10_deepestNow, zLg, zRf, zFq, zEl, zNz, zUf, zUe, zUr, zCe, zSn, gd_0, gd_1, gd_2, gd_3, gd_4, gd_5, gd_6, gd_7, gd_8, gd_9, gd_10, gd_11, gd_12, gd_13, gd_14, gd_15, gd_16, gd_17, gd_18, gd_19, se_0, se_1, se_2, se_3, se_4, se_5, se_6, se_7, se_8, se_9, se_10, se_11, se_12, se_13, se_14, se_15, se_16, se_17, se_18, se_19, e_const, e_load, e_store, e_iinc, e_dup, e_dup2, e_pop, e_iadd, e_isub, e_imul, e_ladd, e_lsub, e_lmul, e_iaddw, e_isubw, e_imulw, e_laddw, e_lsubw, e_lmulw, e_iand, e_ior, e_ishl, e_ishr, e_iushr, e_lcmp, e_imax, e_imin, e_idiv, e_irem, e_ldiv, e_lrem, e_i2l, e_i2b, e_l2i, e_i2c, e_getF, e_getR, e_putF, e_putR, e_putz, e_ald, e_aldR, e_ast, e_astb, e_astz, e_asta, e_len, e_acopy, e_new, e_newa, e_mna, e_this, e_room, e_call0, e_callv0, e_call1, e_callv1, e_inv1, e_invv1, e_call2, e_callv2, e_inv2, e_invv2, e_call3, e_callv3, e_inv3, e_invv3, e_call4, e_callv4, e_inv4, e_invv4, e_call5, e_callv5, e_inv5, e_invv5, e_call6, e_callv6, e_inv6, e_invv6, e_call7, e_callv7, e_inv7, e_invv7, e_call8, e_callv8, e_inv8, e_invv8, e_ret, e_retz, e_retc, e_retb, e_retv, e_skip, e_sco, e_tlen, e_tat, e_iz_eq0, e_iz_eq1, e_iz_ne0, e_iz_ne1, add0, sc_d, sc_t, inI_e, inL_e, up_eq, true_or, or_true, or_false, false_or, and_true, true_and, not_false_eq_true, Int.reduceAdd, Int.reduceSub, Int.reduceMul, Int.reduceNeg, mm_1 hM]
          all_goals first
            | (exfalso; omega)
            | skip
          · rcases hw with ⟨w1, w2⟩ | ⟨w1, w2⟩
            · omega
            · refine hk (n - 1) _ _ _ _ _ (by omega) ⟨r, 0, j, by rw [w1, Int.add_zero], rfl, rfl, hr0, hr1, hinv, Or.inr ⟨rfl, fun z => ?_⟩⟩
              obtain ⟨⟨q, z1, z2, z3, z4⟩, z5⟩ := z
              exact w2 q z1 (by omega) ⟨z3, z4, z5 (by decide)⟩
          · rcases hw with ⟨w1, w2⟩ | ⟨w1, w2⟩
            · obtain ⟨q, z1, z2, z3, z4⟩ := w2.1
              refine hk (n - 1) _ _ _ _ _ (by omega) ⟨r + 1, 1, j, by rw [w1], rfl, rfl, by omega, hnx q z1 z2 z3, fun x x1 x2 => ?_, Or.inl ⟨rfl, by omega⟩⟩
              by_cases z : x = r
              · subst z; exact w2
              · exact hinv x x1 (by omega)
            · omega
      · omega
  · exact hQ (-2) (Or.inl ⟨by unfold suitP; rw [if_neg (by decide)]; exact hs, rfl⟩)
end DEEP

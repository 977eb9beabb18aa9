/-! ===== the class's thief: the gates ===== -/
/-- a row of bits -/
noncomputable def btF (P : Int → Prop) : Nat → Int
  | 0 => 0
  | n + 1 => if bI (P n) = 1 then bOr (btF P n) (bShl 1 n) else btF P n
theorem btF_s {P : Int → Prop} {i : Int} (h : 0 ≤ i) : btF P (i + 1).toNat = if bI (P i) = 1 then bOr (btF P i.toNat) (bShl 1 i) else btF P i.toNat := by
  have e : (i + 1).toNat = i.toNat + 1 := by omega
  rw [e]
  show (if bI (P (i.toNat : Int)) = 1 then bOr (btF P i.toNat) (bShl 1 (i.toNat : Int)) else btF P i.toNat) = _
  rw [Int.toNat_of_nonneg h]
theorem btF_eq {P P' : Int → Prop} : ∀ n : Nat, (∀ v : Int, 0 ≤ v → v < n → (P v ↔ P' v)) → btF P n = btF P' n := by
  intro n
  induction n with
  | zero => intro _; rfl
  | succ n ih =>
    intro h
    have e : P n = P' n := propext (h n (by omega) (by omega))
    unfold btF
    rw [ih (fun v x y => h v x (by omega)), e]
/-- what a gate costs the thief -/
noncomputable def thr (C : Cy) (th : Int → Int) (g : Int) : Int := if bI (openP C th g) = 1 then hrsP C th g else 100000
def zS (s : Int) : Int → Int := fun v => if v = s then 0 else 100000
def zU : Int → Int := fun v => if 0 ≤ v ∧ v < 12 then 0 else 100000
/-- a gate by which a thief can have left -/
def byG (C : Cy) (th : Int → Int) (s hours g : Int) : Prop := min (dst (GC C (thr C th)) (zS s) (spt C g + 12) + dst (GC C (thr C th)) zU (spt C g)) (dst (GC C (thr C th)) (zS s) (spt C g) + dst (GC C (thr C th)) zU (spt C g + 12)) + thr C th g ≤ hours
theorem thr_b {C : Cy} (hW : ctW C) {th : Int → Int} (hth : thW th) (h3 : 1 ≤ th 3) {g : Int} (h0 : 0 ≤ g) (h1 : g < C 0 1 0) : 1 ≤ thr C th g ∧ thr C th g ≤ 100000 := by
  have a := hrs_1 hW hth h3 h0 h1
  have b := hrsB hW hth h0 h1
  unfold thr
  split <;> omega
section GATES
variable {L : Int → Int} {R F E : Int → Int → Int} {N : Nat} {Q : xQ} {t a x g y s hours : Int} {C : Cy} {th : Int → Int}
theorem sX_gatesOf (hTt : tfT t L R) (hT : ctT a L R) (hM : ctM a C F E) (hW : ctW C) (hat : a + 105 ≤ t) (hTy : thT y L R) (hy : thM y th F E) (hyt : y + 4 ≤ t) (hth : thW th) (h3 : 1 ≤ th 3) (s0 : 0 ≤ s) (s1 : s < 72) (hQ : ∀ E' : Int → Int → Int, frI t (t + 4) E E' → Q (btF (byG C th s hours) (C 0 1 0).toNat) (L, R, F, E', N)) : T_X5_gatesOf [t, a, y, s, hours] (L, R, F, E, N) Q := by
  have pa := ct_p hT
  have py := tt_p hTy
  have b0 := cw_0 hW
  have b1 := cw_1 hW
  have hTt' := hTt
  obtain ⟨pt, r0, r1, r2, l1, l2, l3⟩ := hTt
  simp (disch := omega) only [t_X5_gatesOf, ue_X5_gatesOf, zLg, zRf, zFq, zEl, zNz, zUf, zUe, zUr, zCe, zSn, gd_0, gd_1, gd_2, gd_3, gd_4, gd_5, gd_6, gd_7, gd_8, gd_9, gd_10, gd_11, gd_12, gd_13, gd_14, gd_15, gd_16, gd_17, gd_18, gd_19, se_0, se_1, se_2, se_3, se_4, se_5, se_6, se_7, se_8, se_9, se_10, se_11, se_12, se_13, se_14, se_15, se_16, se_17, se_18, se_19, e_const, e_load, e_store, e_iinc, e_dup, e_dup2, e_pop, e_iadd, e_isub, e_imul, e_ladd, e_lsub, e_lmul, e_iaddw, e_isubw, e_imulw, e_laddw, e_lsubw, e_lmulw, e_iand, e_ior, e_ishl, e_ishr, e_iushr, e_lcmp, e_imax, e_imin, e_idiv, e_irem, e_ldiv, e_lrem, e_i2l, e_i2b, e_l2i, e_i2c, e_getF, e_getR, e_putF, e_putR, e_putz, e_ald, e_aldR, e_ast, e_astb, e_astz, e_asta, e_len, e_acopy, e_new, e_newa, e_mna, e_this, e_room, e_call0, e_callv0, e_call1, e_callv1, e_inv1, e_invv1, e_call2, e_callv2, e_inv2, e_invv2, e_call3, e_callv3, e_inv3, e_invv3, e_call4, e_callv4, e_inv4, e_invv4, e_call5, e_callv5, e_inv5, e_invv5, e_call6, e_callv6, e_inv6, e_invv6, e_call7, e_callv7, e_inv7, e_invv7, e_call8, e_callv8, e_inv8, e_invv8, e_ret, e_retz, e_retc, e_retb, e_retv, e_skip, e_sco, e_tlen, e_tat, e_iz_eq0, e_iz_eq1, e_iz_ne0, e_iz_ne1, add0, sc_d, sc_t, inI_e, inL_e, up_eq, true_or, or_true, or_false, false_or, and_true, true_and, not_false_eq_true, Int.reduceAdd, Int.reduceSub, Int.reduceMul, Int.reduceNeg]
  unfold L_X5_gatesOf_3
  refine lpw (fun n lo st h c s9 => ∃ (i : Int) (E' : Int → Int → Int), lo = [t, a, y, s, hours, i, 0] ∧ st = [] ∧ h = (L, R, F, E', N) ∧ 0 ≤ i ∧ i ≤ C 0 1 0 ∧ (n : Int) = C 0 1 0 - i ∧ (∀ b j : Int, b ≠ t + 3 → E' b j = E b j) ∧ (∀ g : Int, 0 ≤ g → g < i → E' (t + 3) g = thr C th g)) ?_ (n := (C 0 1 0).toNat) ⟨0, E, rfl, rfl, rfl, by omega, by omega, by omega, fun _ _ _ => rfl, fun g u v => by omega⟩
  rintro n k hk lo st h c s9 ⟨i, E1, rfl, rfl, rfl, hi, hi2, hn1, hf1, hg1⟩
  have hM1 : ctM a C F E1 := hM.fi hW (frI.rf (lo := t) (hi := t + 4)) (fun b j w => hf1 b j (by omega)) (by omega)
  have hy1 : thM y th F E1 := hy.fi (frI.rf (lo := t) (hi := t + 4)) (fun b j w => hf1 b j (by omega)) (by omega)
  by_cases hlt : i < C 0 1 0
  · have et : thr C th i = if bI (openP C th i) = 1 then hrsP C th i else 100000 := rfl
    have next : ∀ v : Int, v = thr C th i → k [t, a, y, s, hours, i + 1, 0] [] (L, R, F, up E1 (t + 3) i v, N) c s9 := fun v hv => by
      refine hk (n - 1) _ _ _ _ _ (by omega) ⟨i + 1, _, rfl, rfl, rfl, by omega, by omega, by omega, fun b j w => (up_ne (by omega)).trans (hf1 b j w), fun g u w => ?_⟩
      by_cases zg : g = i
      · rw [zg, up_eq]; exact hv
      · rw [up_ne (by omega)]; exact hg1 g u (by omega)
    repeat' first
      | exact absurd hc (by decide)
      | with_reducible refine sX_letsThrough hT hM1 hW hTy hy1 hth hi hlt (fun ho => ?_) (fun ho => ?_)
      | with_reducible refine sX_loadingHours hT hM1 hW hTy hy1 hth hi hlt ?_
      | simp (disch := omega) only [ub_X5_gatesOf_40, zLg, zRf, zFq, zEl, zNz, zUf, zUe, zUr, zCe, zSn, gd_0, gd_1, gd_2, gd_3, gd_4, gd_5, gd_6, gd_7, gd_8, gd_9, gd_10, gd_11, gd_12, gd_13, gd_14, gd_15, gd_16, gd_17, gd_18, gd_19, se_0, se_1, se_2, se_3, se_4, se_5, se_6, se_7, se_8, se_9, se_10, se_11, se_12, se_13, se_14, se_15, se_16, se_17, se_18, se_19, e_const, e_load, e_store, e_iinc, e_dup, e_dup2, e_pop, e_iadd, e_isub, e_imul, e_ladd, e_lsub, e_lmul, e_iaddw, e_isubw, e_imulw, e_laddw, e_lsubw, e_lmulw, e_iand, e_ior, e_ishl, e_ishr, e_iushr, e_lcmp, e_imax, e_imin, e_idiv, e_irem, e_ldiv, e_lrem, e_i2l, e_i2b, e_l2i, e_i2c, e_getF, e_getR, e_putF, e_putR, e_putz, e_ald, e_aldR, e_ast, e_astb, e_astz, e_asta, e_len, e_acopy, e_new, e_newa, e_mna, e_this, e_room, e_call0, e_callv0, e_call1, e_callv1, e_inv1, e_invv1, e_call2, e_callv2, e_inv2, e_invv2, e_call3, e_callv3, e_inv3, e_invv3, e_call4, e_callv4, e_inv4, e_invv4, e_call5, e_callv5, e_inv5, e_invv5, e_call6, e_callv6, e_inv6, e_invv6, e_call7, e_callv7, e_inv7, e_invv7, e_call8, e_callv8, e_inv8, e_invv8, e_ret, e_retz, e_retc, e_retb, e_retv, e_skip, e_sco, e_tlen, e_tat, e_iz_eq0, e_iz_eq1, e_iz_ne0, e_iz_ne1, add0, sc_d, sc_t, inI_e, inL_e, up_eq, true_or, or_true, or_false, false_or, and_true, true_and, not_false_eq_true, Int.reduceAdd, Int.reduceSub, Int.reduceMul, Int.reduceNeg, cm_1 hM1, r2, l3]
      | with_reducible first | refine izl_lt (fun hc => ?_) (fun hc => ?_) | refine izl_ge (fun hc => ?_) (fun hc => ?_) | refine izl_eq (fun hc => ?_) (fun hc => ?_) | refine ic_ge (fun hc => ?_) (fun hc => ?_) | refine ic_lt (fun hc => ?_) (fun hc => ?_) | refine ic_ne (fun hc => ?_) (fun hc => ?_) | refine ic_eq (fun hc => ?_) (fun hc => ?_) | refine ic_le (fun hc => ?_) (fun hc => ?_) | refine ic_gt (fun hc => ?_) (fun hc => ?_) | refine iz_eq (fun hc => ?_) (fun hc => ?_) | refine iz_ne (fun hc => ?_) (fun hc => ?_) | refine iz_lt (fun hc => ?_) (fun hc => ?_) | refine iz_ge (fun hc => ?_) (fun hc => ?_) | refine iz_gt (fun hc => ?_) (fun hc => ?_) | refine iz_le (fun hc => ?_) (fun hc => ?_) | refine iz_nu (fun hc => ?_) (fun hc => ?_) | refine iz_nn (fun hc => ?_) (fun hc => ?_)
      | omega
      | (exfalso; omega)
    · exact next _ (by rw [et, if_pos (bI_t ho)])
    · exact next _ (by rw [et, bI_f ho, if_neg (by omega)])
  · have hie : i = C 0 1 0 := by omega
    subst hie
    repeat' first
      | exact absurd hc (by decide)
      | simp (disch := omega) only [zLg, zRf, zFq, zEl, zNz, zUf, zUe, zUr, zCe, zSn, gd_0, gd_1, gd_2, gd_3, gd_4, gd_5, gd_6, gd_7, gd_8, gd_9, gd_10, gd_11, gd_12, gd_13, gd_14, gd_15, gd_16, gd_17, gd_18, gd_19, se_0, se_1, se_2, se_3, se_4, se_5, se_6, se_7, se_8, se_9, se_10, se_11, se_12, se_13, se_14, se_15, se_16, se_17, se_18, se_19, e_const, e_load, e_store, e_iinc, e_dup, e_dup2, e_pop, e_iadd, e_isub, e_imul, e_ladd, e_lsub, e_lmul, e_iaddw, e_isubw, e_imulw, e_laddw, e_lsubw, e_lmulw, e_iand, e_ior, e_ishl, e_ishr, e_iushr, e_lcmp, e_imax, e_imin, e_idiv, e_irem, e_ldiv, e_lrem, e_i2l, e_i2b, e_l2i, e_i2c, e_getF, e_getR, e_putF, e_putR, e_putz, e_ald, e_aldR, e_ast, e_astb, e_astz, e_asta, e_len, e_acopy, e_new, e_newa, e_mna, e_this, e_room, e_call0, e_callv0, e_call1, e_callv1, e_inv1, e_invv1, e_call2, e_callv2, e_inv2, e_invv2, e_call3, e_callv3, e_inv3, e_invv3, e_call4, e_callv4, e_inv4, e_invv4, e_call5, e_callv5, e_inv5, e_invv5, e_call6, e_callv6, e_inv6, e_invv6, e_call7, e_callv7, e_inv7, e_invv7, e_call8, e_callv8, e_inv8, e_invv8, e_ret, e_retz, e_retc, e_retb, e_retv, e_skip, e_sco, e_tlen, e_tat, e_iz_eq0, e_iz_eq1, e_iz_ne0, e_iz_ne1, add0, sc_d, sc_t, inI_e, inL_e, up_eq, true_or, or_true, or_false, false_or, and_true, true_and, not_false_eq_true, Int.reduceAdd, Int.reduceSub, Int.reduceMul, Int.reduceNeg, cm_1 hM1, r0]
      | with_reducible first | refine izl_lt (fun hc => ?_) (fun hc => ?_) | refine izl_ge (fun hc => ?_) (fun hc => ?_) | refine izl_eq (fun hc => ?_) (fun hc => ?_) | refine ic_ge (fun hc => ?_) (fun hc => ?_) | refine ic_lt (fun hc => ?_) (fun hc => ?_) | refine ic_ne (fun hc => ?_) (fun hc => ?_) | refine ic_eq (fun hc => ?_) (fun hc => ?_) | refine ic_le (fun hc => ?_) (fun hc => ?_) | refine ic_gt (fun hc => ?_) (fun hc => ?_) | refine iz_eq (fun hc => ?_) (fun hc => ?_) | refine iz_ne (fun hc => ?_) (fun hc => ?_) | refine iz_lt (fun hc => ?_) (fun hc => ?_) | refine iz_ge (fun hc => ?_) (fun hc => ?_) | refine iz_gt (fun hc => ?_) (fun hc => ?_) | refine iz_le (fun hc => ?_) (fun hc => ?_) | refine iz_nu (fun hc => ?_) (fun hc => ?_) | refine iz_nn (fun hc => ?_) (fun hc => ?_)
      | omega
      | (exfalso; omega)
    refine sX_fill (by omega) (by omega) (by omega) fun E2 f2 p2 => ?_
    rw [l1] at p2
    repeat' first
      | exact absurd hc (by decide)
      | simp (disch := omega) only [ub_X5_gatesOf_73, zLg, zRf, zFq, zEl, zNz, zUf, zUe, zUr, zCe, zSn, gd_0, gd_1, gd_2, gd_3, gd_4, gd_5, gd_6, gd_7, gd_8, gd_9, gd_10, gd_11, gd_12, gd_13, gd_14, gd_15, gd_16, gd_17, gd_18, gd_19, se_0, se_1, se_2, se_3, se_4, se_5, se_6, se_7, se_8, se_9, se_10, se_11, se_12, se_13, se_14, se_15, se_16, se_17, se_18, se_19, e_const, e_load, e_store, e_iinc, e_dup, e_dup2, e_pop, e_iadd, e_isub, e_imul, e_ladd, e_lsub, e_lmul, e_iaddw, e_isubw, e_imulw, e_laddw, e_lsubw, e_lmulw, e_iand, e_ior, e_ishl, e_ishr, e_iushr, e_lcmp, e_imax, e_imin, e_idiv, e_irem, e_ldiv, e_lrem, e_i2l, e_i2b, e_l2i, e_i2c, e_getF, e_getR, e_putF, e_putR, e_putz, e_ald, e_aldR, e_ast, e_astb, e_astz, e_asta, e_len, e_acopy, e_new, e_newa, e_mna, e_this, e_room, e_call0, e_callv0, e_call1, e_callv1, e_inv1, e_invv1, e_call2, e_callv2, e_inv2, e_invv2, e_call3, e_callv3, e_inv3, e_invv3, e_call4, e_callv4, e_inv4, e_invv4, e_call5, e_callv5, e_inv5, e_invv5, e_call6, e_callv6, e_inv6, e_invv6, e_call7, e_callv7, e_inv7, e_invv7, e_call8, e_callv8, e_inv8, e_invv8, e_ret, e_retz, e_retc, e_retb, e_retv, e_skip, e_sco, e_tlen, e_tat, e_iz_eq0, e_iz_eq1, e_iz_ne0, e_iz_ne1, add0, sc_d, sc_t, inI_e, inL_e, up_eq, true_or, or_true, or_false, false_or, and_true, true_and, not_false_eq_true, Int.reduceAdd, Int.reduceSub, Int.reduceMul, Int.reduceNeg, r0, l1]
      | with_reducible first | refine izl_lt (fun hc => ?_) (fun hc => ?_) | refine izl_ge (fun hc => ?_) (fun hc => ?_) | refine izl_eq (fun hc => ?_) (fun hc => ?_) | refine ic_ge (fun hc => ?_) (fun hc => ?_) | refine ic_lt (fun hc => ?_) (fun hc => ?_) | refine ic_ne (fun hc => ?_) (fun hc => ?_) | refine ic_eq (fun hc => ?_) (fun hc => ?_) | refine ic_le (fun hc => ?_) (fun hc => ?_) | refine ic_gt (fun hc => ?_) (fun hc => ?_) | refine iz_eq (fun hc => ?_) (fun hc => ?_) | refine iz_ne (fun hc => ?_) (fun hc => ?_) | refine iz_lt (fun hc => ?_) (fun hc => ?_) | refine iz_ge (fun hc => ?_) (fun hc => ?_) | refine iz_gt (fun hc => ?_) (fun hc => ?_) | refine iz_le (fun hc => ?_) (fun hc => ?_) | refine iz_nu (fun hc => ?_) (fun hc => ?_) | refine iz_nn (fun hc => ?_) (fun hc => ?_)
      | omega
      | (exfalso; omega)
    have tb := fun g u v => thr_b hW hth h3 (g := g) u v
    have hM2 : ctM a C F (up E2 (t + 1) s 0) := hM.fi hW (frI.rf (lo := t) (hi := t + 4)) (fun b j w => by rw [up_ne (by omega), f2 _ _ (by omega), hf1 _ _ (by omega)]) (by omega)
    refine sX_spread (C := C) (thr := thr C th) (z := zS s) hTt' hT hM2 hW hat (Or.inl rfl) (fun g u v => ⟨by rw [up_ne (by omega), f2 _ _ (by omega)]; exact hg1 g u v, tb g u v⟩) (fun v => by unfold zS; split <;> omega) (fun v u w => ?_) fun E3 f3 p3 => ?_
    · unfold zS
      by_cases zv : v = s
      · rw [zv, up_eq, if_pos rfl]
      · rw [up_ne (by omega), if_neg zv]; exact p2 v u w
    simp (disch := omega) only [zLg, zRf, zFq, zEl, zNz, zUf, zUe, zUr, zCe, zSn, gd_0, gd_1, gd_2, gd_3, gd_4, gd_5, gd_6, gd_7, gd_8, gd_9, gd_10, gd_11, gd_12, gd_13, gd_14, gd_15, gd_16, gd_17, gd_18, gd_19, se_0, se_1, se_2, se_3, se_4, se_5, se_6, se_7, se_8, se_9, se_10, se_11, se_12, se_13, se_14, se_15, se_16, se_17, se_18, se_19, e_const, e_load, e_store, e_iinc, e_dup, e_dup2, e_pop, e_iadd, e_isub, e_imul, e_ladd, e_lsub, e_lmul, e_iaddw, e_isubw, e_imulw, e_laddw, e_lsubw, e_lmulw, e_iand, e_ior, e_ishl, e_ishr, e_iushr, e_lcmp, e_imax, e_imin, e_idiv, e_irem, e_ldiv, e_lrem, e_i2l, e_i2b, e_l2i, e_i2c, e_getF, e_getR, e_putF, e_putR, e_putz, e_ald, e_aldR, e_ast, e_astb, e_astz, e_asta, e_len, e_acopy, e_new, e_newa, e_mna, e_this, e_room, e_call0, e_callv0, e_call1, e_callv1, e_inv1, e_invv1, e_call2, e_callv2, e_inv2, e_invv2, e_call3, e_callv3, e_inv3, e_invv3, e_call4, e_callv4, e_inv4, e_invv4, e_call5, e_callv5, e_inv5, e_invv5, e_call6, e_callv6, e_inv6, e_invv6, e_call7, e_callv7, e_inv7, e_invv7, e_call8, e_callv8, e_inv8, e_invv8, e_ret, e_retz, e_retc, e_retb, e_retv, e_skip, e_sco, e_tlen, e_tat, e_iz_eq0, e_iz_eq1, e_iz_ne0, e_iz_ne1, add0, sc_d, sc_t, inI_e, inL_e, up_eq, true_or, or_true, or_false, false_or, and_true, true_and, not_false_eq_true, Int.reduceAdd, Int.reduceSub, Int.reduceMul, Int.reduceNeg, r1]
    refine sX_fill (by omega) (by omega) (by omega) fun E4 f4 p4 => ?_
    rw [l2] at p4
    try simp (disch := omega) only [zLg, zRf, zFq, zEl, zNz, zUf, zUe, zUr, zCe, zSn, gd_0, gd_1, gd_2, gd_3, gd_4, gd_5, gd_6, gd_7, gd_8, gd_9, gd_10, gd_11, gd_12, gd_13, gd_14, gd_15, gd_16, gd_17, gd_18, gd_19, se_0, se_1, se_2, se_3, se_4, se_5, se_6, se_7, se_8, se_9, se_10, se_11, se_12, se_13, se_14, se_15, se_16, se_17, se_18, se_19, e_const, e_load, e_store, e_iinc, e_dup, e_dup2, e_pop, e_iadd, e_isub, e_imul, e_ladd, e_lsub, e_lmul, e_iaddw, e_isubw, e_imulw, e_laddw, e_lsubw, e_lmulw, e_iand, e_ior, e_ishl, e_ishr, e_iushr, e_lcmp, e_imax, e_imin, e_idiv, e_irem, e_ldiv, e_lrem, e_i2l, e_i2b, e_l2i, e_i2c, e_getF, e_getR, e_putF, e_putR, e_putz, e_ald, e_aldR, e_ast, e_astb, e_astz, e_asta, e_len, e_acopy, e_new, e_newa, e_mna, e_this, e_room, e_call0, e_callv0, e_call1, e_callv1, e_inv1, e_invv1, e_call2, e_callv2, e_inv2, e_invv2, e_call3, e_callv3, e_inv3, e_invv3, e_call4, e_callv4, e_inv4, e_invv4, e_call5, e_callv5, e_inv5, e_invv5, e_call6, e_callv6, e_inv6, e_invv6, e_call7, e_callv7, e_inv7, e_invv7, e_call8, e_callv8, e_inv8, e_invv8, e_ret, e_retz, e_retc, e_retb, e_retv, e_skip, e_sco, e_tlen, e_tat, e_iz_eq0, e_iz_eq1, e_iz_ne0, e_iz_ne1, add0, sc_d, sc_t, inI_e, inL_e, up_eq, true_or, or_true, or_false, false_or, and_true, true_and, not_false_eq_true, Int.reduceAdd, Int.reduceSub, Int.reduceMul, Int.reduceNeg]
    unfold L_X5_gatesOf_94
    refine lpw (fun n lo st h c s9 => ∃ (i : Int) (E' : Int → Int → Int), lo = [t, a, y, s, hours, i, 0] ∧ st = [] ∧ h = (L, R, F, E', N) ∧ 0 ≤ i ∧ i ≤ 12 ∧ (n : Int) = 12 - i ∧ (∀ b j : Int, b ≠ t + 2 → E' b j = E4 b j) ∧ (∀ v : Int, 0 ≤ v → v < 72 → E' (t + 2) v = if v < i then 0 else 100000)) ?_ (n := 12) ⟨0, E4, rfl, rfl, rfl, by omega, by omega, by omega, fun _ _ _ => rfl, fun v u w => by rw [if_neg (by omega)]; exact p4 v u w⟩
    rintro n k hk lo st h c9 s9 ⟨i, E5, rfl, rfl, rfl, hi, hi2, hn1, hf5, hg5⟩
    repeat' first
      | exact absurd hc (by decide)
      | simp (disch := omega) only [zLg, zRf, zFq, zEl, zNz, zUf, zUe, zUr, zCe, zSn, gd_0, gd_1, gd_2, gd_3, gd_4, gd_5, gd_6, gd_7, gd_8, gd_9, gd_10, gd_11, gd_12, gd_13, gd_14, gd_15, gd_16, gd_17, gd_18, gd_19, se_0, se_1, se_2, se_3, se_4, se_5, se_6, se_7, se_8, se_9, se_10, se_11, se_12, se_13, se_14, se_15, se_16, se_17, se_18, se_19, e_const, e_load, e_store, e_iinc, e_dup, e_dup2, e_pop, e_iadd, e_isub, e_imul, e_ladd, e_lsub, e_lmul, e_iaddw, e_isubw, e_imulw, e_laddw, e_lsubw, e_lmulw, e_iand, e_ior, e_ishl, e_ishr, e_iushr, e_lcmp, e_imax, e_imin, e_idiv, e_irem, e_ldiv, e_lrem, e_i2l, e_i2b, e_l2i, e_i2c, e_getF, e_getR, e_putF, e_putR, e_putz, e_ald, e_aldR, e_ast, e_astb, e_astz, e_asta, e_len, e_acopy, e_new, e_newa, e_mna, e_this, e_room, e_call0, e_callv0, e_call1, e_callv1, e_inv1, e_invv1, e_call2, e_callv2, e_inv2, e_invv2, e_call3, e_callv3, e_inv3, e_invv3, e_call4, e_callv4, e_inv4, e_invv4, e_call5, e_callv5, e_inv5, e_invv5, e_call6, e_callv6, e_inv6, e_invv6, e_call7, e_callv7, e_inv7, e_invv7, e_call8, e_callv8, e_inv8, e_invv8, e_ret, e_retz, e_retc, e_retb, e_retv, e_skip, e_sco, e_tlen, e_tat, e_iz_eq0, e_iz_eq1, e_iz_ne0, e_iz_ne1, add0, sc_d, sc_t, inI_e, inL_e, up_eq, true_or, or_true, or_false, false_or, and_true, true_and, not_false_eq_true, Int.reduceAdd, Int.reduceSub, Int.reduceMul, Int.reduceNeg, r1, l2]
      | with_reducible first | refine izl_lt (fun hc => ?_) (fun hc => ?_) | refine izl_ge (fun hc => ?_) (fun hc => ?_) | refine izl_eq (fun hc => ?_) (fun hc => ?_) | refine ic_ge (fun hc => ?_) (fun hc => ?_) | refine ic_lt (fun hc => ?_) (fun hc => ?_) | refine ic_ne (fun hc => ?_) (fun hc => ?_) | refine ic_eq (fun hc => ?_) (fun hc => ?_) | refine ic_le (fun hc => ?_) (fun hc => ?_) | refine ic_gt (fun hc => ?_) (fun hc => ?_) | refine iz_eq (fun hc => ?_) (fun hc => ?_) | refine iz_ne (fun hc => ?_) (fun hc => ?_) | refine iz_lt (fun hc => ?_) (fun hc => ?_) | refine iz_ge (fun hc => ?_) (fun hc => ?_) | refine iz_gt (fun hc => ?_) (fun hc => ?_) | refine iz_le (fun hc => ?_) (fun hc => ?_) | refine iz_nu (fun hc => ?_) (fun hc => ?_) | refine iz_nn (fun hc => ?_) (fun hc => ?_)
      | omega
      | (exfalso; omega)
    · have hie : i = 12 := by omega
      subst hie
      have back : ∀ b j : Int, b ≠ t + 1 → b ≠ t + 2 → E5 b j = E1 b j := fun b j u w => by rw [hf5 _ _ w, f4 _ _ w, f3 _ _ u, up_ne (by omega), f2 _ _ u]
      have hM5 : ctM a C F E5 := hM1.fi hW (frI.rf (lo := t) (hi := t + 4)) (fun b j w => back b j (by omega) (by omega)) (by omega)
      refine sX_spread (C := C) (thr := thr C th) (z := zU) hTt' hT hM5 hW hat (Or.inr rfl) (fun g u v => ⟨by rw [back _ _ (by omega) (by omega)]; exact hg1 g u v, tb g u v⟩) (fun v => by unfold zU; split <;> omega) (fun v u w => ?_) fun E6 f6 p6 => ?_
      · rw [hg5 v u w]
        unfold zU
        by_cases zv : v < 12
        · rw [if_pos zv, if_pos ⟨u, zv⟩]
        · rw [if_neg zv, if_neg (fun q => zv q.2)]
      have q1 : ∀ v : Int, 0 ≤ v → v < 72 → E6 (t + 1) v = dst (GC C (thr C th)) (zS s) v := fun v u w => by rw [f6 _ _ (by omega), hf5 _ _ (by omega), f4 _ _ (by omega)]; exact p3 v u w
      have q3 : ∀ g : Int, 0 ≤ g → g < C 0 1 0 → E6 (t + 3) g = thr C th g := fun g u w => by rw [f6 _ _ (by omega), back _ _ (by omega) (by omega)]; exact hg1 g u w
      have hM6 : ctM a C F E6 := hM5.fi hW (frI.rf (lo := t) (hi := t + 4)) (fun b j w => f6 b j (by omega)) (by omega)
      have fin : frI t (t + 4) E E6 := fun b j w => by rw [f6 _ _ (by omega), back _ _ (by omega) (by omega), hf1 _ _ (by omega)]
      try simp (disch := omega) only [zLg, zRf, zFq, zEl, zNz, zUf, zUe, zUr, zCe, zSn, gd_0, gd_1, gd_2, gd_3, gd_4, gd_5, gd_6, gd_7, gd_8, gd_9, gd_10, gd_11, gd_12, gd_13, gd_14, gd_15, gd_16, gd_17, gd_18, gd_19, se_0, se_1, se_2, se_3, se_4, se_5, se_6, se_7, se_8, se_9, se_10, se_11, se_12, se_13, se_14, se_15, se_16, se_17, se_18, se_19, e_const, e_load, e_store, e_iinc, e_dup, e_dup2, e_pop, e_iadd, e_isub, e_imul, e_ladd, e_lsub, e_lmul, e_iaddw, e_isubw, e_imulw, e_laddw, e_lsubw, e_lmulw, e_iand, e_ior, e_ishl, e_ishr, e_iushr, e_lcmp, e_imax, e_imin, e_idiv, e_irem, e_ldiv, e_lrem, e_i2l, e_i2b, e_l2i, e_i2c, e_getF, e_getR, e_putF, e_putR, e_putz, e_ald, e_aldR, e_ast, e_astb, e_astz, e_asta, e_len, e_acopy, e_new, e_newa, e_mna, e_this, e_room, e_call0, e_callv0, e_call1, e_callv1, e_inv1, e_invv1, e_call2, e_callv2, e_inv2, e_invv2, e_call3, e_callv3, e_inv3, e_invv3, e_call4, e_callv4, e_inv4, e_invv4, e_call5, e_callv5, e_inv5, e_invv5, e_call6, e_callv6, e_inv6, e_invv6, e_call7, e_callv7, e_inv7, e_invv7, e_call8, e_callv8, e_inv8, e_invv8, e_ret, e_retz, e_retc, e_retb, e_retv, e_skip, e_sco, e_tlen, e_tat, e_iz_eq0, e_iz_eq1, e_iz_ne0, e_iz_ne1, add0, sc_d, sc_t, inI_e, inL_e, up_eq, true_or, or_true, or_false, false_or, and_true, true_and, not_false_eq_true, Int.reduceAdd, Int.reduceSub, Int.reduceMul, Int.reduceNeg]
      unfold L_X5_gatesOf_130
      refine lpw (fun n lo st h c s9 => ∃ i : Int, lo = [t, a, y, s, hours, btF (byG C th s hours) i.toNat, i] ∧ st = [] ∧ h = (L, R, F, E6, N) ∧ 0 ≤ i ∧ i ≤ C 0 1 0 ∧ (n : Int) = C 0 1 0 - i) ?_ (n := (C 0 1 0).toNat) ⟨0, rfl, rfl, rfl, by omega, by omega, by omega⟩
      rintro n k hk lo st h c9 s9 ⟨i, rfl, rfl, rfl, hi, hi2, hn1⟩
      by_cases hlt2 : i < C 0 1 0
      · have sb := spt_b hW hi hlt2
        have es := btF_s (P := byG C th s hours) hi
        have tbi := tb i hi hlt2
        have hz1 : ∀ v, 0 ≤ zS s v ∧ zS s v ≤ 100000 := fun v => by unfold zS; split <;> omega
        have hz2 : ∀ v, 0 ≤ zU v ∧ zU v ≤ 100000 := fun v => by unfold zU; split <;> omega
        have hG := GC_in hW (thr := thr C th) (fun g u v => (tb g u v).1)
        have bd1 : ∀ v, 0 ≤ dst (GC C (thr C th)) (zS s) v ∧ dst (GC C (thr C th)) (zS s) v ≤ 100000 := fun v => ⟨Rch_lb (f := fun _ => 0) (fun v => (hz1 v).1) (fun u v c g => by have := hG.n u v c g; omega) (dst_p (fun v => (hz1 v).1) hG.n v).1, by have := dst_z (fun v => (hz1 v).1) hG.n v; have := (hz1 v).2; omega⟩
        have bd2 : ∀ v, 0 ≤ dst (GC C (thr C th)) zU v ∧ dst (GC C (thr C th)) zU v ≤ 100000 := fun v => ⟨Rch_lb (f := fun _ => 0) (fun v => (hz2 v).1) (fun u v c g => by have := hG.n u v c g; omega) (dst_p (fun v => (hz2 v).1) hG.n v).1, by have := dst_z (fun v => (hz2 v).1) hG.n v; have := (hz2 v).2; omega⟩
        have v1 := q1 (spt C i) sb.1 (by omega)
        have v2 := q1 (spt C i + 12) (by omega) (by omega)
        have v3 := p6 (spt C i) sb.1 (by omega)
        have v4 := p6 (spt C i + 12) (by omega) (by omega)
        have v5 := q3 i hi hlt2
        have c1 := bd1 (spt C i)
        have c2 := bd1 (spt C i + 12)
        have c3 := bd2 (spt C i)
        have c4 := bd2 (spt C i + 12)
        have eb : byG C th s hours i ↔ min (dst (GC C (thr C th)) (zS s) (spt C i + 12) + dst (GC C (thr C th)) zU (spt C i)) (dst (GC C (thr C th)) (zS s) (spt C i) + dst (GC C (thr C th)) zU (spt C i + 12)) + thr C th i ≤ hours := Iff.rfl
        generalize hd1 : dst (GC C (thr C th)) (zS s) (spt C i) = d1 at *
        generalize hd2 : dst (GC C (thr C th)) (zS s) (spt C i + 12) = d2 at *
        generalize hd3 : dst (GC C (thr C th)) zU (spt C i) = d3 at *
        generalize hd4 : dst (GC C (thr C th)) zU (spt C i + 12) = d4 at *
        repeat' first
          | exact absurd hc (by decide)
          | with_reducible refine sX_spotOf hT hM6 hW hi hlt2 ?_
          | simp (disch := omega) only [ue_X5_shortestBy, t_X5_shortestBy, ub_X5_gatesOf_160, zLg, zRf, zFq, zEl, zNz, zUf, zUe, zUr, zCe, zSn, gd_0, gd_1, gd_2, gd_3, gd_4, gd_5, gd_6, gd_7, gd_8, gd_9, gd_10, gd_11, gd_12, gd_13, gd_14, gd_15, gd_16, gd_17, gd_18, gd_19, se_0, se_1, se_2, se_3, se_4, se_5, se_6, se_7, se_8, se_9, se_10, se_11, se_12, se_13, se_14, se_15, se_16, se_17, se_18, se_19, e_const, e_load, e_store, e_iinc, e_dup, e_dup2, e_pop, e_iadd, e_isub, e_imul, e_ladd, e_lsub, e_lmul, e_iaddw, e_isubw, e_imulw, e_laddw, e_lsubw, e_lmulw, e_iand, e_ior, e_ishl, e_ishr, e_iushr, e_lcmp, e_imax, e_imin, e_idiv, e_irem, e_ldiv, e_lrem, e_i2l, e_i2b, e_l2i, e_i2c, e_getF, e_getR, e_putF, e_putR, e_putz, e_ald, e_aldR, e_ast, e_astb, e_astz, e_asta, e_len, e_acopy, e_new, e_newa, e_mna, e_this, e_room, e_call0, e_callv0, e_call1, e_callv1, e_inv1, e_invv1, e_call2, e_callv2, e_inv2, e_invv2, e_call3, e_callv3, e_inv3, e_invv3, e_call4, e_callv4, e_inv4, e_invv4, e_call5, e_callv5, e_inv5, e_invv5, e_call6, e_callv6, e_inv6, e_invv6, e_call7, e_callv7, e_inv7, e_invv7, e_call8, e_callv8, e_inv8, e_invv8, e_ret, e_retz, e_retc, e_retb, e_retv, e_skip, e_sco, e_tlen, e_tat, e_iz_eq0, e_iz_eq1, e_iz_ne0, e_iz_ne1, add0, sc_d, sc_t, inI_e, inL_e, up_eq, true_or, or_true, or_false, false_or, and_true, true_and, not_false_eq_true, Int.reduceAdd, Int.reduceSub, Int.reduceMul, Int.reduceNeg, cm_1 hM6, r0, r1, r2, l1, l2, l3, v1, v2, v3, v4, v5]
          | with_reducible first | refine izl_lt (fun hc => ?_) (fun hc => ?_) | refine izl_ge (fun hc => ?_) (fun hc => ?_) | refine izl_eq (fun hc => ?_) (fun hc => ?_) | refine ic_ge (fun hc => ?_) (fun hc => ?_) | refine ic_lt (fun hc => ?_) (fun hc => ?_) | refine ic_ne (fun hc => ?_) (fun hc => ?_) | refine ic_eq (fun hc => ?_) (fun hc => ?_) | refine ic_le (fun hc => ?_) (fun hc => ?_) | refine ic_gt (fun hc => ?_) (fun hc => ?_) | refine iz_eq (fun hc => ?_) (fun hc => ?_) | refine iz_ne (fun hc => ?_) (fun hc => ?_) | refine iz_lt (fun hc => ?_) (fun hc => ?_) | refine iz_ge (fun hc => ?_) (fun hc => ?_) | refine iz_gt (fun hc => ?_) (fun hc => ?_) | refine iz_le (fun hc => ?_) (fun hc => ?_) | refine iz_nu (fun hc => ?_) (fun hc => ?_) | refine iz_nn (fun hc => ?_) (fun hc => ?_)
          | omega
          | (exfalso; omega)
        · have hno : ¬ byG C th s hours i := fun w => by have := eb.mp w; omega
          rw [bI_f hno, if_neg (by omega)] at es
          exact hk (n - 1) _ _ _ _ _ (by omega) ⟨i + 1, by rw [es], rfl, rfl, by omega, by omega, by omega⟩
        · have hyes : byG C th s hours i := eb.mpr (by omega)
          rw [bI_t hyes, if_pos rfl] at es
          exact hk (n - 1) _ _ _ _ _ (by omega) ⟨i + 1, by rw [es], rfl, rfl, by omega, by omega, by omega⟩
      · have hie : i = C 0 1 0 := by omega
        subst hie
        repeat' first
          | exact absurd hc (by decide)
          | simp (disch := omega) only [zLg, zRf, zFq, zEl, zNz, zUf, zUe, zUr, zCe, zSn, gd_0, gd_1, gd_2, gd_3, gd_4, gd_5, gd_6, gd_7, gd_8, gd_9, gd_10, gd_11, gd_12, gd_13, gd_14, gd_15, gd_16, gd_17, gd_18, gd_19, se_0, se_1, se_2, se_3, se_4, se_5, se_6, se_7, se_8, se_9, se_10, se_11, se_12, se_13, se_14, se_15, se_16, se_17, se_18, se_19, e_const, e_load, e_store, e_iinc, e_dup, e_dup2, e_pop, e_iadd, e_isub, e_imul, e_ladd, e_lsub, e_lmul, e_iaddw, e_isubw, e_imulw, e_laddw, e_lsubw, e_lmulw, e_iand, e_ior, e_ishl, e_ishr, e_iushr, e_lcmp, e_imax, e_imin, e_idiv, e_irem, e_ldiv, e_lrem, e_i2l, e_i2b, e_l2i, e_i2c, e_getF, e_getR, e_putF, e_putR, e_putz, e_ald, e_aldR, e_ast, e_astb, e_astz, e_asta, e_len, e_acopy, e_new, e_newa, e_mna, e_this, e_room, e_call0, e_callv0, e_call1, e_callv1, e_inv1, e_invv1, e_call2, e_callv2, e_inv2, e_invv2, e_call3, e_callv3, e_inv3, e_invv3, e_call4, e_callv4, e_inv4, e_invv4, e_call5, e_callv5, e_inv5, e_invv5, e_call6, e_callv6, e_inv6, e_invv6, e_call7, e_callv7, e_inv7, e_invv7, e_call8, e_callv8, e_inv8, e_invv8, e_ret, e_retz, e_retc, e_retb, e_retv, e_skip, e_sco, e_tlen, e_tat, e_iz_eq0, e_iz_eq1, e_iz_ne0, e_iz_ne1, add0, sc_d, sc_t, inI_e, inL_e, up_eq, true_or, or_true, or_false, false_or, and_true, true_and, not_false_eq_true, Int.reduceAdd, Int.reduceSub, Int.reduceMul, Int.reduceNeg, cm_1 hM6]
          | with_reducible first | refine izl_lt (fun hc => ?_) (fun hc => ?_) | refine izl_ge (fun hc => ?_) (fun hc => ?_) | refine izl_eq (fun hc => ?_) (fun hc => ?_) | refine ic_ge (fun hc => ?_) (fun hc => ?_) | refine ic_lt (fun hc => ?_) (fun hc => ?_) | refine ic_ne (fun hc => ?_) (fun hc => ?_) | refine ic_eq (fun hc => ?_) (fun hc => ?_) | refine ic_le (fun hc => ?_) (fun hc => ?_) | refine ic_gt (fun hc => ?_) (fun hc => ?_) | refine iz_eq (fun hc => ?_) (fun hc => ?_) | refine iz_ne (fun hc => ?_) (fun hc => ?_) | refine iz_lt (fun hc => ?_) (fun hc => ?_) | refine iz_ge (fun hc => ?_) (fun hc => ?_) | refine iz_gt (fun hc => ?_) (fun hc => ?_) | refine iz_le (fun hc => ?_) (fun hc => ?_) | refine iz_nu (fun hc => ?_) (fun hc => ?_) | refine iz_nn (fun hc => ?_) (fun hc => ?_)
          | omega
          | (exfalso; omega)
        all_goals exact hQ E6 fin
    · refine hk (n - 1) _ _ _ _ _ (by omega) ⟨i + 1, up E5 (t + 2) i 0, rfl, rfl, rfl, by omega, by omega, by omega, fun b j w => (up_ne (by omega)).trans (hf5 b j w), fun v u w => ?_⟩
      by_cases zv : v = i
      · rw [zv, up_eq, if_pos (by omega)]
      · rw [up_ne (by omega), hg5 v u w]
        by_cases q : v < i
        · rw [if_pos q, if_pos (by omega)]
        · rw [if_neg q, if_neg (by omega)]
end GATES

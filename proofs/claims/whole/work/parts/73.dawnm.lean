/-! ===== a new day: the reference's ===== -/
def frDF (m : Int) (F F' : Int → Int → Int) : Prop := ∀ b j : Int, (b ≠ m ∨ j < 18 ∨ (31 ≤ j ∧ j ≠ 38 ∧ j ≠ 39)) → F' b j = F b j
def frDE (m : Int) (E E' : Int → Int → Int) : Prop := ∀ b j : Int, (b ≤ m + 2 ∨ b = m + 7 ∨ m + 12 ≤ b) → E' b j = E b j
theorem frDF.rf {m : Int} {F : Int → Int → Int} : frDF m F F := fun _ _ _ => rfl
theorem frDE.rf {m : Int} {F : Int → Int → Int} : frDE m F F := fun _ _ _ => rfl
theorem frDF.tr {m : Int} {F G H : Int → Int → Int} (h1 : frDF m F G) (h2 : frDF m G H) : frDF m F H := fun b j h => (h2 b j h).trans (h1 b j h)
theorem frDE.tr {m : Int} {F G H : Int → Int → Int} (h1 : frDE m F G) (h2 : frDE m G H) : frDE m F H := fun b j h => (h2 b j h).trans (h1 b j h)
theorem frS.d {m : Int} {F F' : Int → Int → Int} (h : frS m F F') : frDF m F F' := fun b j z => h b j (by omega)
theorem frA.d {m : Int} {E E' : Int → Int → Int} (h : frA m E E') : frDE m E E' := fun b j z => h b j (by omega)
theorem mM.fd {m c : Int} {C : Cy} {F F' E E' : Int → Int → Int} (h : mM m c C F E) (hc : m + 16 < c) (h1 : frDF m F F') (h2 : frDE m E E') : mM m c C F' E' := ⟨(h1 _ _ (by omega)).trans (mm_0 h), (h1 _ _ (by omega)).trans (mm_1 h), (h1 _ _ (by omega)).trans (mm_2 h), (h1 _ _ (by omega)).trans (mm_3 h), (h1 _ _ (by omega)).trans (mm_4 h), fun g a b => (h2 _ _ (by omega)).trans (mm_w h g a b), fun g w a b x y => (h2 _ _ (by omega)).trans (mm_g h g w a b x y), fun g a b => (h2 _ _ (by omega)).trans (mm_s1 h g a b), fun g a b => (h2 _ _ (by omega)).trans (mm_s2 h g a b), fun g a b => (h2 _ _ (by omega)).trans (mm_c0 h g a b), fun g a b => (h2 _ _ (by omega)).trans (mm_c1 h g a b), fun g a b => (h2 _ _ (by omega)).trans (mm_k0 h g a b), fun g a b => (h2 _ _ (by omega)).trans (mm_k1 h g a b), fun g a b => (h2 _ _ (by omega)).trans (mm_k2 h g a b), fun g a b => (h2 _ _ (by omega)).trans (mm_k3 h g a b), fun g a b => (h2 _ _ (by omega)).trans (mm_k4 h g a b), fun g a b => (h2 _ _ (by omega)).trans (mm_k5 h g a b), fun g a b => (h2 _ _ (by omega)).trans (mm_k6 h g a b), fun g a b => (h2 _ _ (by omega)).trans (mm_o0 h g a b), fun g a b => (h2 _ _ (by omega)).trans (mm_o1 h g a b), fun g a b => (h2 _ _ (by omega)).trans (mm_o2 h g a b), fun g a b => (h2 _ _ (by omega)).trans (mm_o3 h g a b), fun g a b => (h2 _ _ (by omega)).trans (mm_o4 h g a b), fun g a b => (h2 _ _ (by omega)).trans (mm_o5 h g a b)⟩
/-- a day of which nothing else is kept than its loads -/
def dzM (m : Int) (C : Cy) (D F E : Int → Int → Int) : Prop := dmM m C D F E ∧ ∀ q : Int, 9 * D 10 1 ≤ q → q < 648 → E (m + 6) q = 0
theorem dmM.fr {m : Int} {C : Cy} {D F F' E E' : Int → Int → Int} (h : dmM m C D F E) (h1 : F' m 38 = F m 38) (h2 : ∀ b j : Int, (b = m + 6 ∨ b = m + 8 ∨ b = m + 9) → E' b j = E b j) : dmM m C D F' E' := ⟨h1.trans (ed_38 h), (h2 _ _ (by omega)).trans (ed_h h), fun f l a b x y => (h2 _ _ (by omega)).trans (ed_r h f l a b x y), fun g a b => ⟨(h2 _ _ (by omega)).trans (ed_t h g a b).1, (h2 _ _ (by omega)).trans (ed_t h g a b).2⟩, fun l a b => ⟨(h2 _ _ (by omega)).trans (ed_o h l a b).1, (h2 _ _ (by omega)).trans (ed_o h l a b).2⟩⟩
theorem dzM.fr {m : Int} {C : Cy} {D F F' E E' : Int → Int → Int} (h : dzM m C D F E) (h1 : F' m 38 = F m 38) (h2 : ∀ b j : Int, (b = m + 6 ∨ b = m + 8 ∨ b = m + 9) → E' b j = E b j) : dzM m C D F' E' := ⟨h.1.fr h1 h2, fun q a b => (h2 _ _ (by omega)).trans (h.2 q a b)⟩
theorem dz_ad {m n o t : Int} {C : Cy} {D F E : Int → Int → Int} (h : dzM m C D F E) (hn : D 10 1 = n) (h0 : 0 ≤ n) (h1 : n < 72) (ht : t = thO C o 3) : dzM m C (adD C D o) (up F m 38 (n + 1)) (up (up (up (up (up (up E (m + 8) n o) (m + 9) n t) (m + 6) (9 * n + 0) (C 5 o 1)) (m + 6) (9 * n + 1) (C 5 o 2)) (m + 6) (9 * n + 5) (-2)) (m + 6) (9 * n + 6) (-2)) := by
  subst hn
  obtain ⟨hd, hz⟩ := h
  refine ⟨⟨by rw [up_eq, ad_10], ?_, fun f l a b x y => ?_, fun g a b => ?_, fun l x y => ?_⟩, fun q a b => ?_⟩
  · simp (disch := omega) only [up_ne]
    rw [ad_ne (by omega)]
    exact ed_h hd
  · rw [ad_10] at y
    by_cases z : l = D 10 1
    · have cb := cl_b f
      rw [ad_l (by omega) cb.2 z, z]
      have hz2 : E (m + 6) (9 * D 10 1 + 2) = 0 := hz _ (by omega) (by omega)
      have hz3 : E (m + 6) (9 * D 10 1 + 3) = 0 := hz _ (by omega) (by omega)
      have hz4 : E (m + 6) (9 * D 10 1 + 4) = 0 := hz _ (by omega) (by omega)
      have hz7 : E (m + 6) (9 * D 10 1 + 7) = 0 := hz _ (by omega) (by omega)
      have hz8 : E (m + 6) (9 * D 10 1 + 8) = 0 := hz _ (by omega) (by omega)
      by_cases w0 : f = 0
      · subst w0; simp (disch := omega) only [up_ne, up_eq]; rfl
      by_cases w1 : f = 1
      · subst w1; simp (disch := omega) only [up_ne, up_eq]; rfl
      by_cases w2 : f = 2
      · subst w2; simp (disch := omega) only [up_ne, up_eq, hz2]; rfl
      by_cases w3 : f = 3
      · subst w3; simp (disch := omega) only [up_ne, up_eq, hz3]; rfl
      by_cases w4 : f = 4
      · subst w4; simp (disch := omega) only [up_ne, up_eq, hz4]; rfl
      by_cases w5 : f = 5
      · subst w5; simp (disch := omega) only [up_ne, up_eq]; rfl
      by_cases w6 : f = 6
      · subst w6; simp (disch := omega) only [up_ne, up_eq]; rfl
      by_cases w7 : f = 7
      · subst w7; simp (disch := omega) only [up_ne, up_eq, hz7]; rfl
      have w8 : f = 8 := by omega
      subst w8; simp (disch := omega) only [up_ne, up_eq, hz8]; rfl
    · have cb := cl_b f
      rw [ad_ne (by omega)]
      simp (disch := omega) only [up_ne]
      exact ed_r hd f l a b x (by omega)
  · rw [ad_ne (by omega), ad_ne (by omega)]
    simp (disch := omega) only [up_ne]
    exact ed_t hd g a b
  · rw [ad_10] at y
    by_cases z : l = D 10 1
    · have e0 : adD C D o 0 l = o := ad_l (by omega) (by omega) z
      rw [e0, z]
      simp (disch := omega) only [up_ne, up_eq]
      exact ⟨trivial, ht⟩
    · have e0 : adD C D o 0 l = D 0 l := ad_ne (by omega)
      rw [e0]
      simp (disch := omega) only [up_ne]
      exact ed_o hd l x (by omega)
  · rw [ad_10] at a
    simp (disch := omega) only [up_ne]
    exact hz q (by omega) b
section DAWNM
variable {L : Int → Int} {R F E : Int → Int → Int} {N : Nat} {Q : xQ} {m c l g o : Int} {C : Cy} {D : Int → Int → Int}
theorem sM_findsOrder (hT : mtT m L R) (hTc : mcT c L R) (hRc : R m 3 = c) (hM : mM m c C F E) (hW : ctW C) (hmc : m + 16 < c) (o0 : 0 ≤ o) (o1 : o < C 0 4 0) (hQ : ∀ F' E' : Int → Int → Int, frS m F F' → frA m E E' → (bO C o 0 = 1 → bsM m (bO C o) (gO C o) F' E') → Q (bO C o 0) (L, R, F', E', N)) : T_X10_findsOrder [m, o] (L, R, F, E, N) Q := by
  have pm := mt_p hT
  have pc := mc_p hTc
  have b4 := cw_4 hW
  have w0 := cw_o0 hW o o0 o1
  have w1 := cw_o1 hW o o0 o1
  have w2 := cw_o2 hW o o0 o1
  have w3 := cw_o3 hW o o0 o1
  have w4 := cw_o4 hW o o0 o1
  have b01 := (bO_01 C o).1
  simp (disch := omega) only [ue_X10_findsOrder, t_X10_findsOrder, zLg, zRf, zFq, zEl, zNz, zUf, zUe, zUr, zCe, zSn, gd_0, gd_1, gd_2, gd_3, gd_4, gd_5, gd_6, gd_7, gd_8, gd_9, gd_10, gd_11, gd_12, gd_13, gd_14, gd_15, gd_16, gd_17, gd_18, gd_19, se_0, se_1, se_2, se_3, se_4, se_5, se_6, se_7, se_8, se_9, se_10, se_11, se_12, se_13, se_14, se_15, se_16, se_17, se_18, se_19, e_const, e_load, e_store, e_iinc, e_dup, e_dup2, e_pop, e_iadd, e_isub, e_imul, e_ladd, e_lsub, e_lmul, e_iaddw, e_isubw, e_imulw, e_laddw, e_lsubw, e_lmulw, e_iand, e_ior, e_ishl, e_ishr, e_iushr, e_lcmp, e_imax, e_imin, e_idiv, e_irem, e_ldiv, e_lrem, e_i2l, e_i2b, e_l2i, e_i2c, e_getF, e_getR, e_putF, e_putR, e_putz, e_ald, e_aldR, e_ast, e_astb, e_astz, e_asta, e_len, e_acopy, e_new, e_newa, e_mna, e_this, e_room, e_call0, e_callv0, e_call1, e_callv1, e_inv1, e_invv1, e_call2, e_callv2, e_inv2, e_invv2, e_call3, e_callv3, e_inv3, e_invv3, e_call4, e_callv4, e_inv4, e_invv4, e_call5, e_callv5, e_inv5, e_invv5, e_call6, e_callv6, e_inv6, e_invv6, e_call7, e_callv7, e_inv7, e_invv7, e_call8, e_callv8, e_inv8, e_invv8, e_ret, e_retz, e_retc, e_retb, e_retv, e_skip, e_sco, e_tlen, e_tat, e_iz_eq0, e_iz_eq1, e_iz_ne0, e_iz_ne1, add0, sc_d, sc_t, inI_e, inL_e, up_eq, true_or, or_true, or_false, false_or, and_true, true_and, not_false_eq_true, Int.reduceAdd, Int.reduceSub, Int.reduceMul, Int.reduceNeg, hRc, mc_20 hTc, mc_21 hTc, mc_22 hTc, mc_23 hTc, mc_24 hTc, mc_l15 hTc, mc_l16 hTc, mc_l17 hTc, mc_l18 hTc, mc_l19 hTc, mm_o0 hM, mm_o1 hM, mm_o2 hM, mm_o3 hM, mm_o4 hM]
  refine sM_finds hT hTc hRc hM hW hmc w0.1 w0.2 w1.1 (by omega) w3.1 (by omega) w4 w2 fun F' E' a1 a2 a3 => ?_
  have e : bst C (C 5 o 0) (C 5 o 1) (C 5 o 2) (C 5 o 3) (C 5 o 4) 0 = bO C o 0 := rfl
  rw [e] at a3 ⊢
  have := hQ F' E' a1 a2 a3
  repeat' first
    | exact absurd hc (by decide)
    | simp (disch := omega) only [zLg, zRf, zFq, zEl, zNz, zUf, zUe, zUr, zCe, zSn, gd_0, gd_1, gd_2, gd_3, gd_4, gd_5, gd_6, gd_7, gd_8, gd_9, gd_10, gd_11, gd_12, gd_13, gd_14, gd_15, gd_16, gd_17, gd_18, gd_19, se_0, se_1, se_2, se_3, se_4, se_5, se_6, se_7, se_8, se_9, se_10, se_11, se_12, se_13, se_14, se_15, se_16, se_17, se_18, se_19, e_const, e_load, e_store, e_iinc, e_dup, e_dup2, e_pop, e_iadd, e_isub, e_imul, e_ladd, e_lsub, e_lmul, e_iaddw, e_isubw, e_imulw, e_laddw, e_lsubw, e_lmulw, e_iand, e_ior, e_ishl, e_ishr, e_iushr, e_lcmp, e_imax, e_imin, e_idiv, e_irem, e_ldiv, e_lrem, e_i2l, e_i2b, e_l2i, e_i2c, e_getF, e_getR, e_putF, e_putR, e_putz, e_ald, e_aldR, e_ast, e_astb, e_astz, e_asta, e_len, e_acopy, e_new, e_newa, e_mna, e_this, e_room, e_call0, e_callv0, e_call1, e_callv1, e_inv1, e_invv1, e_call2, e_callv2, e_inv2, e_invv2, e_call3, e_callv3, e_inv3, e_invv3, e_call4, e_callv4, e_inv4, e_invv4, e_call5, e_callv5, e_inv5, e_invv5, e_call6, e_callv6, e_inv6, e_invv6, e_call7, e_callv7, e_inv7, e_invv7, e_call8, e_callv8, e_inv8, e_invv8, e_ret, e_retz, e_retc, e_retb, e_retv, e_skip, e_sco, e_tlen, e_tat, e_iz_eq0, e_iz_eq1, e_iz_ne0, e_iz_ne1, add0, sc_d, sc_t, inI_e, inL_e, up_eq, true_or, or_true, or_false, false_or, and_true, true_and, not_false_eq_true, Int.reduceAdd, Int.reduceSub, Int.reduceMul, Int.reduceNeg]
    | with_reducible first | refine izl_lt (fun hc => ?_) (fun hc => ?_) | refine izl_ge (fun hc => ?_) (fun hc => ?_) | refine izl_eq (fun hc => ?_) (fun hc => ?_) | refine ic_ge (fun hc => ?_) (fun hc => ?_) | refine ic_lt (fun hc => ?_) (fun hc => ?_) | refine ic_ne (fun hc => ?_) (fun hc => ?_) | refine ic_eq (fun hc => ?_) (fun hc => ?_) | refine ic_le (fun hc => ?_) (fun hc => ?_) | refine ic_gt (fun hc => ?_) (fun hc => ?_) | refine iz_eq (fun hc => ?_) (fun hc => ?_) | refine iz_ne (fun hc => ?_) (fun hc => ?_) | refine iz_lt (fun hc => ?_) (fun hc => ?_) | refine iz_ge (fun hc => ?_) (fun hc => ?_) | refine iz_gt (fun hc => ?_) (fun hc => ?_) | refine iz_le (fun hc => ?_) (fun hc => ?_) | refine iz_nu (fun hc => ?_) (fun hc => ?_) | refine iz_nn (fun hc => ?_) (fun hc => ?_)
    | omega
    | (exfalso; omega)
  all_goals exact this
theorem sM_dawns (hT : mtT m L R) (hTc : mcT c L R) (hRc : R m 3 = c) (hM : mM m c C F E) (hW : ctW C) (hmc : m + 16 < c) (hQ : ∀ F' E' : Int → Int → Int, frDF m F F' → frDE m E E' → F' m 39 = 0 → dmS m c C L R F' E' → dmM m C (dwD C) F' E' → Q 0 (L, R, F', E', N)) : T_X10_dawns [m] (L, R, F, E, N) Q := by
  have pm := mt_p hT
  have pc := mc_p hTc
  have b4 := cw_4 hW
  have l6 := mt_l6 hT
  have r6 := mt_32 hT
  simp (disch := omega) only [t_X10_dawns, ue_X10_dawns, zLg, zRf, zFq, zEl, zNz, zUf, zUe, zUr, zCe, zSn, gd_0, gd_1, gd_2, gd_3, gd_4, gd_5, gd_6, gd_7, gd_8, gd_9, gd_10, gd_11, gd_12, gd_13, gd_14, gd_15, gd_16, gd_17, gd_18, gd_19, se_0, se_1, se_2, se_3, se_4, se_5, se_6, se_7, se_8, se_9, se_10, se_11, se_12, se_13, se_14, se_15, se_16, se_17, se_18, se_19, e_const, e_load, e_store, e_iinc, e_dup, e_dup2, e_pop, e_iadd, e_isub, e_imul, e_ladd, e_lsub, e_lmul, e_iaddw, e_isubw, e_imulw, e_laddw, e_lsubw, e_lmulw, e_iand, e_ior, e_ishl, e_ishr, e_iushr, e_lcmp, e_imax, e_imin, e_idiv, e_irem, e_ldiv, e_lrem, e_i2l, e_i2b, e_l2i, e_i2c, e_getF, e_getR, e_putF, e_putR, e_putz, e_ald, e_aldR, e_ast, e_astb, e_astz, e_asta, e_len, e_acopy, e_new, e_newa, e_mna, e_this, e_room, e_call0, e_callv0, e_call1, e_callv1, e_inv1, e_invv1, e_call2, e_callv2, e_inv2, e_invv2, e_call3, e_callv3, e_inv3, e_invv3, e_call4, e_callv4, e_inv4, e_invv4, e_call5, e_callv5, e_inv5, e_invv5, e_call6, e_callv6, e_inv6, e_invv6, e_call7, e_callv7, e_inv7, e_invv7, e_call8, e_callv8, e_inv8, e_invv8, e_ret, e_retz, e_retc, e_retb, e_retv, e_skip, e_sco, e_tlen, e_tat, e_iz_eq0, e_iz_eq1, e_iz_ne0, e_iz_ne1, add0, sc_d, sc_t, inI_e, inL_e, up_eq, true_or, or_true, or_false, false_or, and_true, true_and, not_false_eq_true, Int.reduceAdd, Int.reduceSub, Int.reduceMul, Int.reduceNeg]
  have fF : frDF m F (up (up F m 39 0) m 38 0) := fun b j z => by rw [up_ne (by omega), up_ne (by omega)]
  have eF8 : up (up F m 39 0) m 38 0 m 38 = 0 := up_eq
  have eF9 : up (up F m 39 0) m 38 0 m 39 = 0 := by rw [up_ne (by omega), up_eq]
  generalize up (up F m 39 0) m 38 0 = F4 at *
  unfold L_X10_dawns_12
  refine lpw (fun n lo st h c s => ∃ (i : Int) (E' : Int → Int → Int), lo = [m, i, 0, 0] ∧ st = [] ∧ h = (L, R, F4, E', N) ∧ 0 ≤ i ∧ i ≤ 671 ∧ (n : Int) = 671 - i ∧ (∀ b j : Int, b ≠ m + 6 → E' b j = E b j) ∧ (∀ j : Int, 0 ≤ j → j < i → E' (m + 6) j = 0)) ?_ (n := 671) ⟨0, E, rfl, rfl, rfl, by omega, by omega, by omega, fun _ _ _ => rfl, fun j u v => by omega⟩
  rintro n k hk lo st h c9 s ⟨i, E', rfl, rfl, rfl, hi, hi2, hn1, hf, hz⟩
  repeat' first
    | exact absurd hc (by decide)
    | simp (disch := omega) only [zLg, zRf, zFq, zEl, zNz, zUf, zUe, zUr, zCe, zSn, gd_0, gd_1, gd_2, gd_3, gd_4, gd_5, gd_6, gd_7, gd_8, gd_9, gd_10, gd_11, gd_12, gd_13, gd_14, gd_15, gd_16, gd_17, gd_18, gd_19, se_0, se_1, se_2, se_3, se_4, se_5, se_6, se_7, se_8, se_9, se_10, se_11, se_12, se_13, se_14, se_15, se_16, se_17, se_18, se_19, e_const, e_load, e_store, e_iinc, e_dup, e_dup2, e_pop, e_iadd, e_isub, e_imul, e_ladd, e_lsub, e_lmul, e_iaddw, e_isubw, e_imulw, e_laddw, e_lsubw, e_lmulw, e_iand, e_ior, e_ishl, e_ishr, e_iushr, e_lcmp, e_imax, e_imin, e_idiv, e_irem, e_ldiv, e_lrem, e_i2l, e_i2b, e_l2i, e_i2c, e_getF, e_getR, e_putF, e_putR, e_putz, e_ald, e_aldR, e_ast, e_astb, e_astz, e_asta, e_len, e_acopy, e_new, e_newa, e_mna, e_this, e_room, e_call0, e_callv0, e_call1, e_callv1, e_inv1, e_invv1, e_call2, e_callv2, e_inv2, e_invv2, e_call3, e_callv3, e_inv3, e_invv3, e_call4, e_callv4, e_inv4, e_invv4, e_call5, e_callv5, e_inv5, e_invv5, e_call6, e_callv6, e_inv6, e_invv6, e_call7, e_callv7, e_inv7, e_invv7, e_call8, e_callv8, e_inv8, e_invv8, e_ret, e_retz, e_retc, e_retb, e_retv, e_skip, e_sco, e_tlen, e_tat, e_iz_eq0, e_iz_eq1, e_iz_ne0, e_iz_ne1, add0, sc_d, sc_t, inI_e, inL_e, up_eq, true_or, or_true, or_false, false_or, and_true, true_and, not_false_eq_true, Int.reduceAdd, Int.reduceSub, Int.reduceMul, Int.reduceNeg, r6, l6]
    | with_reducible first | refine izl_lt (fun hc => ?_) (fun hc => ?_) | refine izl_ge (fun hc => ?_) (fun hc => ?_) | refine izl_eq (fun hc => ?_) (fun hc => ?_) | refine ic_ge (fun hc => ?_) (fun hc => ?_) | refine ic_lt (fun hc => ?_) (fun hc => ?_) | refine ic_ne (fun hc => ?_) (fun hc => ?_) | refine ic_eq (fun hc => ?_) (fun hc => ?_) | refine ic_le (fun hc => ?_) (fun hc => ?_) | refine ic_gt (fun hc => ?_) (fun hc => ?_) | refine iz_eq (fun hc => ?_) (fun hc => ?_) | refine iz_ne (fun hc => ?_) (fun hc => ?_) | refine iz_lt (fun hc => ?_) (fun hc => ?_) | refine iz_ge (fun hc => ?_) (fun hc => ?_) | refine iz_gt (fun hc => ?_) (fun hc => ?_) | refine iz_le (fun hc => ?_) (fun hc => ?_) | refine iz_nu (fun hc => ?_) (fun hc => ?_) | refine iz_nn (fun hc => ?_) (fun hc => ?_)
    | omega
    | (exfalso; omega)
  · have hie : i = 671 := by omega
    subst hie
    have hzM : dzM m C (dwN C (0 : Int).toNat) F4 E' := ⟨⟨eF8, hz 670 (by omega) (by omega), fun f l a b x y => by exfalso; have : (0 : Int) = dwN C (0 : Int).toNat 10 1 := rfl; omega, fun g a b => ⟨hz _ (by omega) (by omega), hz _ (by omega) (by omega)⟩, fun l x y => by exfalso; have : (0 : Int) = dwN C (0 : Int).toNat 10 1 := rfl; omega⟩, fun q a b => by have : (0 : Int) = dwN C (0 : Int).toNat 10 1 := rfl; exact hz q (by omega) (by omega)⟩
    have fE : frDE m E E' := fun b j z => hf b j (by omega)
    clear hk k
    unfold L_X10_dawns_34
    refine lpw (fun n lo st h c s => ∃ (i x2 x3 : Int) (F' E' : Int → Int → Int), lo = [m, i, x2, x3] ∧ st = [] ∧ h = (L, R, F', E', N) ∧ 0 ≤ i ∧ i ≤ C 0 4 0 ∧ (n : Int) = C 0 4 0 - i ∧ frDF m F F' ∧ frDE m E E' ∧ F' m 39 = 0 ∧ dzM m C (dwN C i.toNat) F' E' ∧ (∀ o : Int, 0 ≤ o → o < i → bO C o 0 = 1 → E' (m + 11) o = bO C o 5 ∧ ∀ q : Int, 0 ≤ q → q < bO C o 5 → E' (m + 10) (6 * o + q) = gO C o q.toNat)) ?_ (n := (C 0 4 0).toNat) ⟨0, _, _, F4, E', rfl, rfl, rfl, by omega, by omega, by omega, fF, fE, eF9, hzM, fun o u v => by omega⟩
    clear hf hz hzM fE fF eF8 eF9
    rintro n k hk lo st h c9 s ⟨i, x2, x3, F1, E1, rfl, rfl, rfl, hi, hi2, hn1, fF, fE, e39, hzM, hwy⟩
    have hM1 := hM.fd hmc fF fE
    have hI := dwN_I hW i.toNat (by omega)
    by_cases hlt : i < C 0 4 0
    · have es := dwN_s (C := C) hi
      simp (disch := omega) only [zLg, zRf, zFq, zEl, zNz, zUf, zUe, zUr, zCe, zSn, gd_0, gd_1, gd_2, gd_3, gd_4, gd_5, gd_6, gd_7, gd_8, gd_9, gd_10, gd_11, gd_12, gd_13, gd_14, gd_15, gd_16, gd_17, gd_18, gd_19, se_0, se_1, se_2, se_3, se_4, se_5, se_6, se_7, se_8, se_9, se_10, se_11, se_12, se_13, se_14, se_15, se_16, se_17, se_18, se_19, e_const, e_load, e_store, e_iinc, e_dup, e_dup2, e_pop, e_iadd, e_isub, e_imul, e_ladd, e_lsub, e_lmul, e_iaddw, e_isubw, e_imulw, e_laddw, e_lsubw, e_lmulw, e_iand, e_ior, e_ishl, e_ishr, e_iushr, e_lcmp, e_imax, e_imin, e_idiv, e_irem, e_ldiv, e_lrem, e_i2l, e_i2b, e_l2i, e_i2c, e_getF, e_getR, e_putF, e_putR, e_putz, e_ald, e_aldR, e_ast, e_astb, e_astz, e_asta, e_len, e_acopy, e_new, e_newa, e_mna, e_this, e_room, e_call0, e_callv0, e_call1, e_callv1, e_inv1, e_invv1, e_call2, e_callv2, e_inv2, e_invv2, e_call3, e_callv3, e_inv3, e_invv3, e_call4, e_callv4, e_inv4, e_invv4, e_call5, e_callv5, e_inv5, e_invv5, e_call6, e_callv6, e_inv6, e_invv6, e_call7, e_callv7, e_inv7, e_invv7, e_call8, e_callv8, e_inv8, e_invv8, e_ret, e_retz, e_retc, e_retb, e_retv, e_skip, e_sco, e_tlen, e_tat, e_iz_eq0, e_iz_eq1, e_iz_ne0, e_iz_ne1, add0, sc_d, sc_t, inI_e, inL_e, up_eq, true_or, or_true, or_false, false_or, and_true, true_and, not_false_eq_true, Int.reduceAdd, Int.reduceSub, Int.reduceMul, Int.reduceNeg, hRc, mm_4 hM1]
      refine ic_ge (fun hc => absurd hc (by omega)) (fun _ => ?_)
      try simp (disch := omega) only [zLg, zRf, zFq, zEl, zNz, zUf, zUe, zUr, zCe, zSn, gd_0, gd_1, gd_2, gd_3, gd_4, gd_5, gd_6, gd_7, gd_8, gd_9, gd_10, gd_11, gd_12, gd_13, gd_14, gd_15, gd_16, gd_17, gd_18, gd_19, se_0, se_1, se_2, se_3, se_4, se_5, se_6, se_7, se_8, se_9, se_10, se_11, se_12, se_13, se_14, se_15, se_16, se_17, se_18, se_19, e_const, e_load, e_store, e_iinc, e_dup, e_dup2, e_pop, e_iadd, e_isub, e_imul, e_ladd, e_lsub, e_lmul, e_iaddw, e_isubw, e_imulw, e_laddw, e_lsubw, e_lmulw, e_iand, e_ior, e_ishl, e_ishr, e_iushr, e_lcmp, e_imax, e_imin, e_idiv, e_irem, e_ldiv, e_lrem, e_i2l, e_i2b, e_l2i, e_i2c, e_getF, e_getR, e_putF, e_putR, e_putz, e_ald, e_aldR, e_ast, e_astb, e_astz, e_asta, e_len, e_acopy, e_new, e_newa, e_mna, e_this, e_room, e_call0, e_callv0, e_call1, e_callv1, e_inv1, e_invv1, e_call2, e_callv2, e_inv2, e_invv2, e_call3, e_callv3, e_inv3, e_invv3, e_call4, e_callv4, e_inv4, e_invv4, e_call5, e_callv5, e_inv5, e_invv5, e_call6, e_callv6, e_inv6, e_invv6, e_call7, e_callv7, e_inv7, e_invv7, e_call8, e_callv8, e_inv8, e_invv8, e_ret, e_retz, e_retc, e_retb, e_retv, e_skip, e_sco, e_tlen, e_tat, e_iz_eq0, e_iz_eq1, e_iz_ne0, e_iz_ne1, add0, sc_d, sc_t, inI_e, inL_e, up_eq, true_or, or_true, or_false, false_or, and_true, true_and, not_false_eq_true, Int.reduceAdd, Int.reduceSub, Int.reduceMul, Int.reduceNeg]
      refine sM_findsOrder hT hTc hRc hM1 hW hmc hi hlt fun F2 E2 a1 a2 a3 => ?_
      have fF2 := fF.tr a1.d
      have fE2 := fE.tr a2.d
      have e39' : F2 m 39 = 0 := (a1 _ _ (by omega)).trans e39
      have hzM2 := hzM.fr (a1 _ _ (by omega)) (fun b j z => a2 b j (by omega))
      have hwy2 : ∀ o : Int, 0 ≤ o → o < i → bO C o 0 = 1 → E2 (m + 11) o = bO C o 5 ∧ ∀ q : Int, 0 ≤ q → q < bO C o 5 → E2 (m + 10) (6 * o + q) = gO C o q.toNat := fun o u v w => by
        obtain ⟨y1, y2⟩ := hwy o u v w
        exact ⟨(a2 _ _ (by omega)).trans y1, fun q z1 z2 => (a2 _ _ (by omega)).trans (y2 q z1 z2)⟩
      by_cases hfo : bO C i 0 = 1
      · rw [if_pos hfo] at es
        obtain ⟨s1, s2, s3, s5, s6⟩ := a3 hfo
        have n5 := bO_5 hW hi hlt
        repeat' first
          | exact absurd hc (by decide)
          | simp (disch := omega) only [zLg, zRf, zFq, zEl, zNz, zUf, zUe, zUr, zCe, zSn, gd_0, gd_1, gd_2, gd_3, gd_4, gd_5, gd_6, gd_7, gd_8, gd_9, gd_10, gd_11, gd_12, gd_13, gd_14, gd_15, gd_16, gd_17, gd_18, gd_19, se_0, se_1, se_2, se_3, se_4, se_5, se_6, se_7, se_8, se_9, se_10, se_11, se_12, se_13, se_14, se_15, se_16, se_17, se_18, se_19, e_const, e_load, e_store, e_iinc, e_dup, e_dup2, e_pop, e_iadd, e_isub, e_imul, e_ladd, e_lsub, e_lmul, e_iaddw, e_isubw, e_imulw, e_laddw, e_lsubw, e_lmulw, e_iand, e_ior, e_ishl, e_ishr, e_iushr, e_lcmp, e_imax, e_imin, e_idiv, e_irem, e_ldiv, e_lrem, e_i2l, e_i2b, e_l2i, e_i2c, e_getF, e_getR, e_putF, e_putR, e_putz, e_ald, e_aldR, e_ast, e_astb, e_astz, e_asta, e_len, e_acopy, e_new, e_newa, e_mna, e_this, e_room, e_call0, e_callv0, e_call1, e_callv1, e_inv1, e_invv1, e_call2, e_callv2, e_inv2, e_invv2, e_call3, e_callv3, e_inv3, e_invv3, e_call4, e_callv4, e_inv4, e_invv4, e_call5, e_callv5, e_inv5, e_invv5, e_call6, e_callv6, e_inv6, e_invv6, e_call7, e_callv7, e_inv7, e_invv7, e_call8, e_callv8, e_inv8, e_invv8, e_ret, e_retz, e_retc, e_retb, e_retv, e_skip, e_sco, e_tlen, e_tat, e_iz_eq0, e_iz_eq1, e_iz_ne0, e_iz_ne1, add0, sc_d, sc_t, inI_e, inL_e, up_eq, true_or, or_true, or_false, false_or, and_true, true_and, not_false_eq_true, Int.reduceAdd, Int.reduceSub, Int.reduceMul, Int.reduceNeg, hfo, s5, mt_37 hT, mt_l11 hT]
          | with_reducible first | refine izl_lt (fun hc => ?_) (fun hc => ?_) | refine izl_ge (fun hc => ?_) (fun hc => ?_) | refine izl_eq (fun hc => ?_) (fun hc => ?_) | refine ic_ge (fun hc => ?_) (fun hc => ?_) | refine ic_lt (fun hc => ?_) (fun hc => ?_) | refine ic_ne (fun hc => ?_) (fun hc => ?_) | refine ic_eq (fun hc => ?_) (fun hc => ?_) | refine ic_le (fun hc => ?_) (fun hc => ?_) | refine ic_gt (fun hc => ?_) (fun hc => ?_) | refine iz_eq (fun hc => ?_) (fun hc => ?_) | refine iz_ne (fun hc => ?_) (fun hc => ?_) | refine iz_lt (fun hc => ?_) (fun hc => ?_) | refine iz_ge (fun hc => ?_) (fun hc => ?_) | refine iz_gt (fun hc => ?_) (fun hc => ?_) | refine iz_le (fun hc => ?_) (fun hc => ?_) | refine iz_nu (fun hc => ?_) (fun hc => ?_) | refine iz_nn (fun hc => ?_) (fun hc => ?_)
          | omega
          | (exfalso; omega)
        unfold L_X10_dawns_68
        refine lpw (fun n lo st h c s => ∃ (j : Int) (E3 : Int → Int → Int), lo = [m, i, j, x3] ∧ st = [] ∧ h = (L, R, F2, E3, N) ∧ 0 ≤ j ∧ j ≤ bO C i 5 ∧ (n : Int) = bO C i 5 - j ∧ (∀ b q : Int, (b ≠ m + 10 ∧ b ≠ m + 11) ∨ (b = m + 10 ∧ q < 6 * i) ∨ (b = m + 11 ∧ q ≠ i) → E3 b q = E2 b q) ∧ E3 (m + 11) i = bO C i 5 ∧ ∀ q : Int, 0 ≤ q → q < j → E3 (m + 10) (6 * i + q) = gO C i q.toNat) ?_ (n := (bO C i 5).toNat) ⟨0, up E2 (m + 11) i (bO C i 5), rfl, rfl, rfl, by omega, by omega, by omega, fun b q z => up_ne (by omega), up_eq, fun q u v => by omega⟩
        rintro n2 k2 hk2 lo st h c2 sz ⟨j, E3, rfl, rfl, rfl, hj, hj2, hn2, hf3, h11, hg3⟩
        by_cases hjt : j < bO C i 5
        · have e5 : E3 (m + 5) j = gO C i j.toNat := by
            rw [hf3 _ _ (by omega)]
            have := s6 j.toNat (by omega)
            rw [Int.toNat_of_nonneg hj] at this
            exact this
          repeat' first
            | exact absurd hc (by decide)
            | simp (disch := omega) only [zLg, zRf, zFq, zEl, zNz, zUf, zUe, zUr, zCe, zSn, gd_0, gd_1, gd_2, gd_3, gd_4, gd_5, gd_6, gd_7, gd_8, gd_9, gd_10, gd_11, gd_12, gd_13, gd_14, gd_15, gd_16, gd_17, gd_18, gd_19, se_0, se_1, se_2, se_3, se_4, se_5, se_6, se_7, se_8, se_9, se_10, se_11, se_12, se_13, se_14, se_15, se_16, se_17, se_18, se_19, e_const, e_load, e_store, e_iinc, e_dup, e_dup2, e_pop, e_iadd, e_isub, e_imul, e_ladd, e_lsub, e_lmul, e_iaddw, e_isubw, e_imulw, e_laddw, e_lsubw, e_lmulw, e_iand, e_ior, e_ishl, e_ishr, e_iushr, e_lcmp, e_imax, e_imin, e_idiv, e_irem, e_ldiv, e_lrem, e_i2l, e_i2b, e_l2i, e_i2c, e_getF, e_getR, e_putF, e_putR, e_putz, e_ald, e_aldR, e_ast, e_astb, e_astz, e_asta, e_len, e_acopy, e_new, e_newa, e_mna, e_this, e_room, e_call0, e_callv0, e_call1, e_callv1, e_inv1, e_invv1, e_call2, e_callv2, e_inv2, e_invv2, e_call3, e_callv3, e_inv3, e_invv3, e_call4, e_callv4, e_inv4, e_invv4, e_call5, e_callv5, e_inv5, e_invv5, e_call6, e_callv6, e_inv6, e_invv6, e_call7, e_callv7, e_inv7, e_invv7, e_call8, e_callv8, e_inv8, e_invv8, e_ret, e_retz, e_retc, e_retb, e_retv, e_skip, e_sco, e_tlen, e_tat, e_iz_eq0, e_iz_eq1, e_iz_ne0, e_iz_ne1, add0, sc_d, sc_t, inI_e, inL_e, up_eq, true_or, or_true, or_false, false_or, and_true, true_and, not_false_eq_true, Int.reduceAdd, Int.reduceSub, Int.reduceMul, Int.reduceNeg, s5, e5, mt_31 hT, mt_36 hT, mt_l5 hT, mt_l10 hT]
            | with_reducible first | refine izl_lt (fun hc => ?_) (fun hc => ?_) | refine izl_ge (fun hc => ?_) (fun hc => ?_) | refine izl_eq (fun hc => ?_) (fun hc => ?_) | refine ic_ge (fun hc => ?_) (fun hc => ?_) | refine ic_lt (fun hc => ?_) (fun hc => ?_) | refine ic_ne (fun hc => ?_) (fun hc => ?_) | refine ic_eq (fun hc => ?_) (fun hc => ?_) | refine ic_le (fun hc => ?_) (fun hc => ?_) | refine ic_gt (fun hc => ?_) (fun hc => ?_) | refine iz_eq (fun hc => ?_) (fun hc => ?_) | refine iz_ne (fun hc => ?_) (fun hc => ?_) | refine iz_lt (fun hc => ?_) (fun hc => ?_) | refine iz_ge (fun hc => ?_) (fun hc => ?_) | refine iz_gt (fun hc => ?_) (fun hc => ?_) | refine iz_le (fun hc => ?_) (fun hc => ?_) | refine iz_nu (fun hc => ?_) (fun hc => ?_) | refine iz_nn (fun hc => ?_) (fun hc => ?_)
            | omega
            | (exfalso; omega)
          refine hk2 (n2 - 1) _ _ _ _ _ (by omega) ⟨j + 1, up E3 (m + 10) (6 * i + j) (gO C i j.toNat), rfl, rfl, rfl, by omega, by omega, by omega, fun b q z => (up_ne (by omega)).trans (hf3 b q z), (up_ne (by omega)).trans h11, fun q u v => ?_⟩
          by_cases z : q = j
          · rw [z, up_eq]
          · rw [up_ne (by omega)]; exact hg3 q u (by omega)
        · have hje : j = bO C i 5 := by omega
          subst hje
          have fE3 : frDE m E2 E3 := fun b q z => hf3 b q (by omega)
          have hM3 := hM.fd hmc fF2 (fE2.tr fE3)
          have hzM3 := hzM2.fr rfl (fun b q z => hf3 b q (by omega))
          have k0 := cw_o0 hW i hi hlt
          have b11 := (bO_01 C i).2
          have hth : (bO C i 1 = 0 ∧ thO C i = wh C (C 5 i 0)) ∨ (bO C i 1 = 1 ∧ 0 < pn C (C 5 i 0) ∧ thO C i = pt C (C 5 i 0)) := by
            rcases b11 with z | z
            · exact Or.inl ⟨z, if_neg (by omega)⟩
            · exact Or.inr ⟨z, bst_cut z, if_pos z⟩
          repeat' first
            | exact absurd hc (by decide)
            | simp (disch := omega) only [zLg, zRf, zFq, zEl, zNz, zUf, zUe, zUr, zCe, zSn, gd_0, gd_1, gd_2, gd_3, gd_4, gd_5, gd_6, gd_7, gd_8, gd_9, gd_10, gd_11, gd_12, gd_13, gd_14, gd_15, gd_16, gd_17, gd_18, gd_19, se_0, se_1, se_2, se_3, se_4, se_5, se_6, se_7, se_8, se_9, se_10, se_11, se_12, se_13, se_14, se_15, se_16, se_17, se_18, se_19, e_const, e_load, e_store, e_iinc, e_dup, e_dup2, e_pop, e_iadd, e_isub, e_imul, e_ladd, e_lsub, e_lmul, e_iaddw, e_isubw, e_imulw, e_laddw, e_lsubw, e_lmulw, e_iand, e_ior, e_ishl, e_ishr, e_iushr, e_lcmp, e_imax, e_imin, e_idiv, e_irem, e_ldiv, e_lrem, e_i2l, e_i2b, e_l2i, e_i2c, e_getF, e_getR, e_putF, e_putR, e_putz, e_ald, e_aldR, e_ast, e_astb, e_astz, e_asta, e_len, e_acopy, e_new, e_newa, e_mna, e_this, e_room, e_call0, e_callv0, e_call1, e_callv1, e_inv1, e_invv1, e_call2, e_callv2, e_inv2, e_invv2, e_call3, e_callv3, e_inv3, e_invv3, e_call4, e_callv4, e_inv4, e_invv4, e_call5, e_callv5, e_inv5, e_invv5, e_call6, e_callv6, e_inv6, e_invv6, e_call7, e_callv7, e_inv7, e_invv7, e_call8, e_callv8, e_inv8, e_invv8, e_ret, e_retz, e_retc, e_retb, e_retv, e_skip, e_sco, e_tlen, e_tat, e_iz_eq0, e_iz_eq1, e_iz_ne0, e_iz_ne1, add0, sc_d, sc_t, inI_e, inL_e, up_eq, true_or, or_true, or_false, false_or, and_true, true_and, not_false_eq_true, Int.reduceAdd, Int.reduceSub, Int.reduceMul, Int.reduceNeg, hRc, s1, s5, mc_20 hTc, mc_l15 hTc, mm_o0 hM3]
            | with_reducible first | refine izl_lt (fun hc => ?_) (fun hc => ?_) | refine izl_ge (fun hc => ?_) (fun hc => ?_) | refine izl_eq (fun hc => ?_) (fun hc => ?_) | refine ic_ge (fun hc => ?_) (fun hc => ?_) | refine ic_lt (fun hc => ?_) (fun hc => ?_) | refine ic_ne (fun hc => ?_) (fun hc => ?_) | refine ic_eq (fun hc => ?_) (fun hc => ?_) | refine ic_le (fun hc => ?_) (fun hc => ?_) | refine ic_gt (fun hc => ?_) (fun hc => ?_) | refine iz_eq (fun hc => ?_) (fun hc => ?_) | refine iz_ne (fun hc => ?_) (fun hc => ?_) | refine iz_lt (fun hc => ?_) (fun hc => ?_) | refine iz_ge (fun hc => ?_) (fun hc => ?_) | refine iz_gt (fun hc => ?_) (fun hc => ?_) | refine iz_le (fun hc => ?_) (fun hc => ?_) | refine iz_nu (fun hc => ?_) (fun hc => ?_) | refine iz_nn (fun hc => ?_) (fun hc => ?_)
            | omega
            | (exfalso; omega)
          refine sM_takes hT hTc hRc hM3 hW hmc k0.1 k0.2 hth fun F5 g1 g2 => ?_
          try simp (disch := omega) only [zLg, zRf, zFq, zEl, zNz, zUf, zUe, zUr, zCe, zSn, gd_0, gd_1, gd_2, gd_3, gd_4, gd_5, gd_6, gd_7, gd_8, gd_9, gd_10, gd_11, gd_12, gd_13, gd_14, gd_15, gd_16, gd_17, gd_18, gd_19, se_0, se_1, se_2, se_3, se_4, se_5, se_6, se_7, se_8, se_9, se_10, se_11, se_12, se_13, se_14, se_15, se_16, se_17, se_18, se_19, e_const, e_load, e_store, e_iinc, e_dup, e_dup2, e_pop, e_iadd, e_isub, e_imul, e_ladd, e_lsub, e_lmul, e_iaddw, e_isubw, e_imulw, e_laddw, e_lsubw, e_lmulw, e_iand, e_ior, e_ishl, e_ishr, e_iushr, e_lcmp, e_imax, e_imin, e_idiv, e_irem, e_ldiv, e_lrem, e_i2l, e_i2b, e_l2i, e_i2c, e_getF, e_getR, e_putF, e_putR, e_putz, e_ald, e_aldR, e_ast, e_astb, e_astz, e_asta, e_len, e_acopy, e_new, e_newa, e_mna, e_this, e_room, e_call0, e_callv0, e_call1, e_callv1, e_inv1, e_invv1, e_call2, e_callv2, e_inv2, e_invv2, e_call3, e_callv3, e_inv3, e_invv3, e_call4, e_callv4, e_inv4, e_invv4, e_call5, e_callv5, e_inv5, e_invv5, e_call6, e_callv6, e_inv6, e_invv6, e_call7, e_callv7, e_inv7, e_invv7, e_call8, e_callv8, e_inv8, e_invv8, e_ret, e_retz, e_retc, e_retb, e_retv, e_skip, e_sco, e_tlen, e_tat, e_iz_eq0, e_iz_eq1, e_iz_ne0, e_iz_ne1, add0, sc_d, sc_t, inI_e, inL_e, up_eq, true_or, or_true, or_false, false_or, and_true, true_and, not_false_eq_true, Int.reduceAdd, Int.reduceSub, Int.reduceMul, Int.reduceNeg]
          have t4 := tw_4 (thO_W hW hi hlt)
          have fF5 : frDF m F2 F5 := fun b q z => g1 b q (by omega)
          have hM5 := hM.fd hmc (fF2.tr fF5) (fE2.tr fE3)
          have hzM5 : dzM m C (dwN C i.toNat) F5 E3 := hzM3.fr (g1 _ _ (by omega)) (fun _ _ _ => rfl)
          have wl1 := mm_o1 hM5 i hi hlt
          have wl2 := mm_o2 hM5 i hi hlt
          have sm3 := sm_3 g2
          have sm4 := sm_4 g2
          generalize dwN C i.toNat = Di at *
          unfold L_X10_dawns_118
          refine lpw (fun n lo st h c s => ∃ (j x3 : Int) (F6 E6 : Int → Int → Int), lo = [m, i, j, x3] ∧ st = [] ∧ h = (L, R, F6, E6, N) ∧ 0 ≤ j ∧ j ≤ thO C i 4 ∧ (n : Int) = thO C i 4 - j ∧ (∀ b q : Int, b ≠ m ∨ q ≠ 38 → F6 b q = F5 b q) ∧ (∀ b q : Int, b ≠ m + 6 ∧ b ≠ m + 8 ∧ b ≠ m + 9 → E6 b q = E3 b q) ∧ dzM m C (adN C Di i j.toNat) F6 E6) ?_ (n := (thO C i 4).toNat) ⟨0, _, F5, E3, rfl, rfl, rfl, by omega, by omega, by omega, fun _ _ _ => rfl, fun _ _ _ => rfl, hzM5⟩
          rintro n3 k3 hk3 lo st h c3 sz3 ⟨j, y3, F6, E6, rfl, rfl, rfl, hj, hj2, hn3, f6, e6, z6⟩
          have jI := adN_I hI hi hlt hfo j.toNat
          have jb := jI.2.1
          have s64 : F6 m 23 = thO C i 4 := (f6 _ _ (by omega)).trans sm4
          have s63 : F6 m 21 = thO C i 3 := (f6 _ _ (by omega)).trans sm3
          by_cases hjt : j < thO C i 4
          · have ej := adN_s (C := C) (D := Di) (o := i) hj
            have e38 := ed_38 z6.1
            have zad := dz_ad z6 rfl (by omega) (by omega) (rfl : thO C i 3 = thO C i 3)
            generalize adN C Di i j.toNat = Dj at *
            have w1 : E6 (c + 16) i = C 5 i 1 := (e6 _ _ (by omega)).trans wl1
            have w2 : E6 (c + 17) i = C 5 i 2 := (e6 _ _ (by omega)).trans wl2
            repeat' first
              | exact absurd hc (by decide)
              | simp (disch := omega) only [zLg, zRf, zFq, zEl, zNz, zUf, zUe, zUr, zCe, zSn, gd_0, gd_1, gd_2, gd_3, gd_4, gd_5, gd_6, gd_7, gd_8, gd_9, gd_10, gd_11, gd_12, gd_13, gd_14, gd_15, gd_16, gd_17, gd_18, gd_19, se_0, se_1, se_2, se_3, se_4, se_5, se_6, se_7, se_8, se_9, se_10, se_11, se_12, se_13, se_14, se_15, se_16, se_17, se_18, se_19, e_const, e_load, e_store, e_iinc, e_dup, e_dup2, e_pop, e_iadd, e_isub, e_imul, e_ladd, e_lsub, e_lmul, e_iaddw, e_isubw, e_imulw, e_laddw, e_lsubw, e_lmulw, e_iand, e_ior, e_ishl, e_ishr, e_iushr, e_lcmp, e_imax, e_imin, e_idiv, e_irem, e_ldiv, e_lrem, e_i2l, e_i2b, e_l2i, e_i2c, e_getF, e_getR, e_putF, e_putR, e_putz, e_ald, e_aldR, e_ast, e_astb, e_astz, e_asta, e_len, e_acopy, e_new, e_newa, e_mna, e_this, e_room, e_call0, e_callv0, e_call1, e_callv1, e_inv1, e_invv1, e_call2, e_callv2, e_inv2, e_invv2, e_call3, e_callv3, e_inv3, e_invv3, e_call4, e_callv4, e_inv4, e_invv4, e_call5, e_callv5, e_inv5, e_invv5, e_call6, e_callv6, e_inv6, e_invv6, e_call7, e_callv7, e_inv7, e_invv7, e_call8, e_callv8, e_inv8, e_invv8, e_ret, e_retz, e_retc, e_retb, e_retv, e_skip, e_sco, e_tlen, e_tat, e_iz_eq0, e_iz_eq1, e_iz_ne0, e_iz_ne1, add0, sc_d, sc_t, inI_e, inL_e, up_eq, true_or, or_true, or_false, false_or, and_true, true_and, not_false_eq_true, Int.reduceAdd, Int.reduceSub, Int.reduceMul, Int.reduceNeg, up_ne, hRc, s64, s63, e38, w1, w2, r6, l6, mt_34 hT, mt_35 hT, mt_l8 hT, mt_l9 hT, mc_21 hTc, mc_22 hTc, mc_l16 hTc, mc_l17 hTc]
              | with_reducible first | refine izl_lt (fun hc => ?_) (fun hc => ?_) | refine izl_ge (fun hc => ?_) (fun hc => ?_) | refine izl_eq (fun hc => ?_) (fun hc => ?_) | refine ic_ge (fun hc => ?_) (fun hc => ?_) | refine ic_lt (fun hc => ?_) (fun hc => ?_) | refine ic_ne (fun hc => ?_) (fun hc => ?_) | refine ic_eq (fun hc => ?_) (fun hc => ?_) | refine ic_le (fun hc => ?_) (fun hc => ?_) | refine ic_gt (fun hc => ?_) (fun hc => ?_) | refine iz_eq (fun hc => ?_) (fun hc => ?_) | refine iz_ne (fun hc => ?_) (fun hc => ?_) | refine iz_lt (fun hc => ?_) (fun hc => ?_) | refine iz_ge (fun hc => ?_) (fun hc => ?_) | refine iz_gt (fun hc => ?_) (fun hc => ?_) | refine iz_le (fun hc => ?_) (fun hc => ?_) | refine iz_nu (fun hc => ?_) (fun hc => ?_) | refine iz_nn (fun hc => ?_) (fun hc => ?_)
              | omega
              | (exfalso; omega)
            exact hk3 (n3 - 1) _ _ _ _ _ (by omega) ⟨j + 1, _, _, _, rfl, rfl, rfl, by omega, by omega, by omega, fun b q z => (up_ne (by omega)).trans (f6 b q z), fun b q z => by simp (disch := omega) only [up_ne]; exact e6 b q z, by rw [ej]; exact zad⟩
          · have hje : j = thO C i 4 := by omega
            rw [hje] at z6
            rw [← es] at z6
            repeat' first
              | exact absurd hc (by decide)
              | simp (disch := omega) only [ub_X10_dawns_228, zLg, zRf, zFq, zEl, zNz, zUf, zUe, zUr, zCe, zSn, gd_0, gd_1, gd_2, gd_3, gd_4, gd_5, gd_6, gd_7, gd_8, gd_9, gd_10, gd_11, gd_12, gd_13, gd_14, gd_15, gd_16, gd_17, gd_18, gd_19, se_0, se_1, se_2, se_3, se_4, se_5, se_6, se_7, se_8, se_9, se_10, se_11, se_12, se_13, se_14, se_15, se_16, se_17, se_18, se_19, e_const, e_load, e_store, e_iinc, e_dup, e_dup2, e_pop, e_iadd, e_isub, e_imul, e_ladd, e_lsub, e_lmul, e_iaddw, e_isubw, e_imulw, e_laddw, e_lsubw, e_lmulw, e_iand, e_ior, e_ishl, e_ishr, e_iushr, e_lcmp, e_imax, e_imin, e_idiv, e_irem, e_ldiv, e_lrem, e_i2l, e_i2b, e_l2i, e_i2c, e_getF, e_getR, e_putF, e_putR, e_putz, e_ald, e_aldR, e_ast, e_astb, e_astz, e_asta, e_len, e_acopy, e_new, e_newa, e_mna, e_this, e_room, e_call0, e_callv0, e_call1, e_callv1, e_inv1, e_invv1, e_call2, e_callv2, e_inv2, e_invv2, e_call3, e_callv3, e_inv3, e_invv3, e_call4, e_callv4, e_inv4, e_invv4, e_call5, e_callv5, e_inv5, e_invv5, e_call6, e_callv6, e_inv6, e_invv6, e_call7, e_callv7, e_inv7, e_invv7, e_call8, e_callv8, e_inv8, e_invv8, e_ret, e_retz, e_retc, e_retb, e_retv, e_skip, e_sco, e_tlen, e_tat, e_iz_eq0, e_iz_eq1, e_iz_ne0, e_iz_ne1, add0, sc_d, sc_t, inI_e, inL_e, up_eq, true_or, or_true, or_false, false_or, and_true, true_and, not_false_eq_true, Int.reduceAdd, Int.reduceSub, Int.reduceMul, Int.reduceNeg, s64]
              | with_reducible first | refine izl_lt (fun hc => ?_) (fun hc => ?_) | refine izl_ge (fun hc => ?_) (fun hc => ?_) | refine izl_eq (fun hc => ?_) (fun hc => ?_) | refine ic_ge (fun hc => ?_) (fun hc => ?_) | refine ic_lt (fun hc => ?_) (fun hc => ?_) | refine ic_ne (fun hc => ?_) (fun hc => ?_) | refine ic_eq (fun hc => ?_) (fun hc => ?_) | refine ic_le (fun hc => ?_) (fun hc => ?_) | refine ic_gt (fun hc => ?_) (fun hc => ?_) | refine iz_eq (fun hc => ?_) (fun hc => ?_) | refine iz_ne (fun hc => ?_) (fun hc => ?_) | refine iz_lt (fun hc => ?_) (fun hc => ?_) | refine iz_ge (fun hc => ?_) (fun hc => ?_) | refine iz_gt (fun hc => ?_) (fun hc => ?_) | refine iz_le (fun hc => ?_) (fun hc => ?_) | refine iz_nu (fun hc => ?_) (fun hc => ?_) | refine iz_nn (fun hc => ?_) (fun hc => ?_)
              | omega
              | (exfalso; omega)
            refine hk (n - 1) _ _ _ _ _ (by omega) ⟨i + 1, _, _, F6, E6, rfl, rfl, rfl, by omega, by omega, by omega, (fF2.tr fF5).tr (fun b q z => f6 b q (by omega)), (fE2.tr fE3).tr (fun b q z => e6 b q (by omega)), ?_, z6, fun o u v w => ?_⟩
            · rw [f6 _ _ (by omega), g1 _ _ (by omega)]; exact e39'
            · by_cases zo : o = i
              · subst zo
                rw [e6 _ _ (by omega)]
                exact ⟨h11, fun q z1 z2 => by rw [e6 _ _ (by omega)]; exact hg3 q z1 z2⟩
              · obtain ⟨y1, y2⟩ := hwy2 o u (by omega) w
                rw [e6 _ _ (by omega), hf3 _ _ (by omega)]
                have n5o := bO_5 hW u (by omega)
                exact ⟨y1, fun q z1 z2 => by rw [e6 _ _ (by omega), hf3 _ _ (by omega)]; exact y2 q z1 z2⟩
      · rw [if_neg hfo] at es
        rw [← es] at hzM2
        have b01 := (bO_01 C i).1
        repeat' first
          | exact absurd hc (by decide)
          | simp (disch := omega) only [ub_X10_dawns_228, zLg, zRf, zFq, zEl, zNz, zUf, zUe, zUr, zCe, zSn, gd_0, gd_1, gd_2, gd_3, gd_4, gd_5, gd_6, gd_7, gd_8, gd_9, gd_10, gd_11, gd_12, gd_13, gd_14, gd_15, gd_16, gd_17, gd_18, gd_19, se_0, se_1, se_2, se_3, se_4, se_5, se_6, se_7, se_8, se_9, se_10, se_11, se_12, se_13, se_14, se_15, se_16, se_17, se_18, se_19, e_const, e_load, e_store, e_iinc, e_dup, e_dup2, e_pop, e_iadd, e_isub, e_imul, e_ladd, e_lsub, e_lmul, e_iaddw, e_isubw, e_imulw, e_laddw, e_lsubw, e_lmulw, e_iand, e_ior, e_ishl, e_ishr, e_iushr, e_lcmp, e_imax, e_imin, e_idiv, e_irem, e_ldiv, e_lrem, e_i2l, e_i2b, e_l2i, e_i2c, e_getF, e_getR, e_putF, e_putR, e_putz, e_ald, e_aldR, e_ast, e_astb, e_astz, e_asta, e_len, e_acopy, e_new, e_newa, e_mna, e_this, e_room, e_call0, e_callv0, e_call1, e_callv1, e_inv1, e_invv1, e_call2, e_callv2, e_inv2, e_invv2, e_call3, e_callv3, e_inv3, e_invv3, e_call4, e_callv4, e_inv4, e_invv4, e_call5, e_callv5, e_inv5, e_invv5, e_call6, e_callv6, e_inv6, e_invv6, e_call7, e_callv7, e_inv7, e_invv7, e_call8, e_callv8, e_inv8, e_invv8, e_ret, e_retz, e_retc, e_retb, e_retv, e_skip, e_sco, e_tlen, e_tat, e_iz_eq0, e_iz_eq1, e_iz_ne0, e_iz_ne1, add0, sc_d, sc_t, inI_e, inL_e, up_eq, true_or, or_true, or_false, false_or, and_true, true_and, not_false_eq_true, Int.reduceAdd, Int.reduceSub, Int.reduceMul, Int.reduceNeg]
          | with_reducible first | refine izl_lt (fun hc => ?_) (fun hc => ?_) | refine izl_ge (fun hc => ?_) (fun hc => ?_) | refine izl_eq (fun hc => ?_) (fun hc => ?_) | refine ic_ge (fun hc => ?_) (fun hc => ?_) | refine ic_lt (fun hc => ?_) (fun hc => ?_) | refine ic_ne (fun hc => ?_) (fun hc => ?_) | refine ic_eq (fun hc => ?_) (fun hc => ?_) | refine ic_le (fun hc => ?_) (fun hc => ?_) | refine ic_gt (fun hc => ?_) (fun hc => ?_) | refine iz_eq (fun hc => ?_) (fun hc => ?_) | refine iz_ne (fun hc => ?_) (fun hc => ?_) | refine iz_lt (fun hc => ?_) (fun hc => ?_) | refine iz_ge (fun hc => ?_) (fun hc => ?_) | refine iz_gt (fun hc => ?_) (fun hc => ?_) | refine iz_le (fun hc => ?_) (fun hc => ?_) | refine iz_nu (fun hc => ?_) (fun hc => ?_) | refine iz_nn (fun hc => ?_) (fun hc => ?_)
          | omega
          | (exfalso; omega)
        exact hk (n - 1) _ _ _ _ _ (by omega) ⟨i + 1, _, _, F2, E2, rfl, rfl, rfl, by omega, by omega, by omega, fF2, fE2, e39', hzM2, fun o u v w => hwy2 o u (by rcases Int.lt_or_eq_of_le (Int.le_of_lt_add_one v) with z | z; exact z; exact absurd (z ▸ w) hfo) w⟩
    · have hie : i = C 0 4 0 := by omega
      subst hie
      simp (disch := omega) only [zLg, zRf, zFq, zEl, zNz, zUf, zUe, zUr, zCe, zSn, gd_0, gd_1, gd_2, gd_3, gd_4, gd_5, gd_6, gd_7, gd_8, gd_9, gd_10, gd_11, gd_12, gd_13, gd_14, gd_15, gd_16, gd_17, gd_18, gd_19, se_0, se_1, se_2, se_3, se_4, se_5, se_6, se_7, se_8, se_9, se_10, se_11, se_12, se_13, se_14, se_15, se_16, se_17, se_18, se_19, e_const, e_load, e_store, e_iinc, e_dup, e_dup2, e_pop, e_iadd, e_isub, e_imul, e_ladd, e_lsub, e_lmul, e_iaddw, e_isubw, e_imulw, e_laddw, e_lsubw, e_lmulw, e_iand, e_ior, e_ishl, e_ishr, e_iushr, e_lcmp, e_imax, e_imin, e_idiv, e_irem, e_ldiv, e_lrem, e_i2l, e_i2b, e_l2i, e_i2c, e_getF, e_getR, e_putF, e_putR, e_putz, e_ald, e_aldR, e_ast, e_astb, e_astz, e_asta, e_len, e_acopy, e_new, e_newa, e_mna, e_this, e_room, e_call0, e_callv0, e_call1, e_callv1, e_inv1, e_invv1, e_call2, e_callv2, e_inv2, e_invv2, e_call3, e_callv3, e_inv3, e_invv3, e_call4, e_callv4, e_inv4, e_invv4, e_call5, e_callv5, e_inv5, e_invv5, e_call6, e_callv6, e_inv6, e_invv6, e_call7, e_callv7, e_inv7, e_invv7, e_call8, e_callv8, e_inv8, e_invv8, e_ret, e_retz, e_retc, e_retb, e_retv, e_skip, e_sco, e_tlen, e_tat, e_iz_eq0, e_iz_eq1, e_iz_ne0, e_iz_ne1, add0, sc_d, sc_t, inI_e, inL_e, up_eq, true_or, or_true, or_false, false_or, and_true, true_and, not_false_eq_true, Int.reduceAdd, Int.reduceSub, Int.reduceMul, Int.reduceNeg, hRc, mm_4 hM1]
      refine ic_ge (fun _ => ?_) (fun hc => absurd hc (by omega))
      try simp (disch := omega) only [zLg, zRf, zFq, zEl, zNz, zUf, zUe, zUr, zCe, zSn, gd_0, gd_1, gd_2, gd_3, gd_4, gd_5, gd_6, gd_7, gd_8, gd_9, gd_10, gd_11, gd_12, gd_13, gd_14, gd_15, gd_16, gd_17, gd_18, gd_19, se_0, se_1, se_2, se_3, se_4, se_5, se_6, se_7, se_8, se_9, se_10, se_11, se_12, se_13, se_14, se_15, se_16, se_17, se_18, se_19, e_const, e_load, e_store, e_iinc, e_dup, e_dup2, e_pop, e_iadd, e_isub, e_imul, e_ladd, e_lsub, e_lmul, e_iaddw, e_isubw, e_imulw, e_laddw, e_lsubw, e_lmulw, e_iand, e_ior, e_ishl, e_ishr, e_iushr, e_lcmp, e_imax, e_imin, e_idiv, e_irem, e_ldiv, e_lrem, e_i2l, e_i2b, e_l2i, e_i2c, e_getF, e_getR, e_putF, e_putR, e_putz, e_ald, e_aldR, e_ast, e_astb, e_astz, e_asta, e_len, e_acopy, e_new, e_newa, e_mna, e_this, e_room, e_call0, e_callv0, e_call1, e_callv1, e_inv1, e_invv1, e_call2, e_callv2, e_inv2, e_invv2, e_call3, e_callv3, e_inv3, e_invv3, e_call4, e_callv4, e_inv4, e_invv4, e_call5, e_callv5, e_inv5, e_invv5, e_call6, e_callv6, e_inv6, e_invv6, e_call7, e_callv7, e_inv7, e_invv7, e_call8, e_callv8, e_inv8, e_invv8, e_ret, e_retz, e_retc, e_retb, e_retv, e_skip, e_sco, e_tlen, e_tat, e_iz_eq0, e_iz_eq1, e_iz_ne0, e_iz_ne1, add0, sc_d, sc_t, inI_e, inL_e, up_eq, true_or, or_true, or_false, false_or, and_true, true_and, not_false_eq_true, Int.reduceAdd, Int.reduceSub, Int.reduceMul, Int.reduceNeg]
      exact hQ F1 E1 fF fE e39 ⟨hT, hTc, hRc, hM1, hW, hmc, hwy⟩ hzM.1
  · refine hk (n - 1) _ _ _ _ _ (by omega) ⟨i + 1, up E' (m + 6) i 0, rfl, rfl, rfl, by omega, by omega, by omega, fun b j z => (up_ne (by omega)).trans (hf b j z), fun j u v => ?_⟩
    by_cases z : j = i
    · rw [z, up_eq]
    · rw [up_ne (by omega)]; exact hz j u (by omega)
end DAWNM

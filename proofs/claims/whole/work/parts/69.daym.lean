/-! ===== the reference's day ===== -/
def dmS (m c : Int) (C : Cy) (L : Int → Int) (R F E : Int → Int → Int) : Prop := (mtT m L R) ∧ (mcT c L R) ∧ (R m 3 = c) ∧ (mM m c C F E) ∧ (ctW C) ∧ (m + 16 < c) ∧ (∀ o : Int, 0 ≤ o → o < C 0 4 0 → bO C o 0 = 1 → E (m + 11) o = bO C o 5 ∧ ∀ i : Int, 0 ≤ i → i < bO C o 5 → E (m + 10) (6 * o + i) = gO C o i.toNat)
theorem es_t {m c : Int} {C : Cy} {L : Int → Int} {R F E : Int → Int → Int} (h : dmS m c C L R F E) : mtT m L R := h.1
theorem es_c {m c : Int} {C : Cy} {L : Int → Int} {R F E : Int → Int → Int} (h : dmS m c C L R F E) : mcT c L R := h.2.1
theorem es_3 {m c : Int} {C : Cy} {L : Int → Int} {R F E : Int → Int → Int} (h : dmS m c C L R F E) : R m 3 = c := h.2.2.1
theorem es_m {m c : Int} {C : Cy} {L : Int → Int} {R F E : Int → Int → Int} (h : dmS m c C L R F E) : mM m c C F E := h.2.2.2.1
theorem es_w {m c : Int} {C : Cy} {L : Int → Int} {R F E : Int → Int → Int} (h : dmS m c C L R F E) : ctW C := h.2.2.2.2.1
theorem es_mc {m c : Int} {C : Cy} {L : Int → Int} {R F E : Int → Int → Int} (h : dmS m c C L R F E) : m + 16 < c := h.2.2.2.2.2.1
theorem es_y {m c : Int} {C : Cy} {L : Int → Int} {R F E : Int → Int → Int} (h : dmS m c C L R F E) : ∀ o : Int, 0 ≤ o → o < C 0 4 0 → bO C o 0 = 1 → E (m + 11) o = bO C o 5 ∧ ∀ i : Int, 0 ≤ i → i < bO C o 5 → E (m + 10) (6 * o + i) = gO C o i.toNat := h.2.2.2.2.2.2
def cl (f : Int) : Int := if f = 0 then 1 else if f = 1 then 2 else if f = 2 then 3 else if f = 3 then 4 else if f = 4 then 5 else if f = 5 then 6 else if f = 6 then 7 else if f = 7 then 9 else 8
theorem cl_b (f : Int) : 1 ≤ cl f ∧ cl f < 10 := by unfold cl; (repeat' split) <;> omega
theorem cl_inj {f g : Int} (h0 : 0 ≤ f) (h1 : f < 9) (h2 : 0 ≤ g) (h3 : g < 9) (h : cl f = cl g) : f = g := by
  unfold cl at h
  repeat' (split at h)
  all_goals omega
def dmM (m : Int) (C : Cy) (D F E : Int → Int → Int) : Prop := (F m 38 = D 10 1) ∧ (E (m + 6) 670 = D 10 0) ∧ (∀ f l : Int, 0 ≤ f → f < 9 → 0 ≤ l → l < D 10 1 → E (m + 6) (9 * l + f) = D (cl f) l) ∧ (∀ g : Int, 0 ≤ g → g < 11 → E (m + 6) (648 + g) = D 11 g ∧ E (m + 6) (659 + g) = D 12 g) ∧ (∀ l : Int, 0 ≤ l → l < D 10 1 → E (m + 8) l = D 0 l ∧ E (m + 9) l = thO C (D 0 l) 3)
theorem ed_38 {m : Int} {C : Cy} {D F E : Int → Int → Int} (h : dmM m C D F E) : F m 38 = D 10 1 := h.1
theorem ed_h {m : Int} {C : Cy} {D F E : Int → Int → Int} (h : dmM m C D F E) : E (m + 6) 670 = D 10 0 := h.2.1
theorem ed_r {m : Int} {C : Cy} {D F E : Int → Int → Int} (h : dmM m C D F E) : ∀ f l : Int, 0 ≤ f → f < 9 → 0 ≤ l → l < D 10 1 → E (m + 6) (9 * l + f) = D (cl f) l := h.2.2.1
theorem ed_t {m : Int} {C : Cy} {D F E : Int → Int → Int} (h : dmM m C D F E) : ∀ g : Int, 0 ≤ g → g < 11 → E (m + 6) (648 + g) = D 11 g ∧ E (m + 6) (659 + g) = D 12 g := h.2.2.2.1
theorem ed_o {m : Int} {C : Cy} {D F E : Int → Int → Int} (h : dmM m C D F E) : ∀ l : Int, 0 ≤ l → l < D 10 1 → E (m + 8) l = D 0 l ∧ E (m + 9) l = thO C (D 0 l) 3 := h.2.2.2.2
def frW (m : Int) (E E' : Int → Int → Int) : Prop := ∀ b j : Int, b ≠ m + 6 → E' b j = E b j
theorem frW.rf {m : Int} {E : Int → Int → Int} : frW m E E := fun _ _ _ => rfl
theorem frW.tr {m : Int} {E E' E'' : Int → Int → Int} (h1 : frW m E E') (h2 : frW m E' E'') : frW m E E'' := fun b j z => (h2 b j z).trans (h1 b j z)
theorem frW.up {m i v : Int} {E : Int → Int → Int} : frW m E (up E (m + 6) i v) := fun b j z => up_ne (Or.inl z)
theorem mM.fw {m c : Int} {C : Cy} {F E E' : Int → Int → Int} (h : mM m c C F E) (hc : m + 16 < c) (h2 : frW m E E') : mM m c C F E' := ⟨mm_0 h, mm_1 h, mm_2 h, mm_3 h, mm_4 h, fun g a b => (h2 _ _ (by omega)).trans (mm_w h g a b), fun g w a b x y => (h2 _ _ (by omega)).trans (mm_g h g w a b x y), fun g a b => (h2 _ _ (by omega)).trans (mm_s1 h g a b), fun g a b => (h2 _ _ (by omega)).trans (mm_s2 h g a b), fun g a b => (h2 _ _ (by omega)).trans (mm_c0 h g a b), fun g a b => (h2 _ _ (by omega)).trans (mm_c1 h g a b), fun g a b => (h2 _ _ (by omega)).trans (mm_k0 h g a b), fun g a b => (h2 _ _ (by omega)).trans (mm_k1 h g a b), fun g a b => (h2 _ _ (by omega)).trans (mm_k2 h g a b), fun g a b => (h2 _ _ (by omega)).trans (mm_k3 h g a b), fun g a b => (h2 _ _ (by omega)).trans (mm_k4 h g a b), fun g a b => (h2 _ _ (by omega)).trans (mm_k5 h g a b), fun g a b => (h2 _ _ (by omega)).trans (mm_k6 h g a b), fun g a b => (h2 _ _ (by omega)).trans (mm_o0 h g a b), fun g a b => (h2 _ _ (by omega)).trans (mm_o1 h g a b), fun g a b => (h2 _ _ (by omega)).trans (mm_o2 h g a b), fun g a b => (h2 _ _ (by omega)).trans (mm_o3 h g a b), fun g a b => (h2 _ _ (by omega)).trans (mm_o4 h g a b), fun g a b => (h2 _ _ (by omega)).trans (mm_o5 h g a b)⟩
theorem dmS.fw {m c : Int} {C : Cy} {L : Int → Int} {R F E E' : Int → Int → Int} (h : dmS m c C L R F E) (h2 : frW m E E') : dmS m c C L R F E' := ⟨es_t h, es_c h, es_3 h, (es_m h).fw (es_mc h) h2, es_w h, es_mc h, fun o a b z => by
  obtain ⟨p, q⟩ := es_y h o a b z
  exact ⟨(h2 _ _ (by omega)).trans p, fun i x y => (h2 _ _ (by omega)).trans (q i x y)⟩⟩
/-- a row written -/
theorem dm_up {m : Int} {C : Cy} {D F E : Int → Int → Int} (h : dmM m C D F E) (f w l v : Int) (hf : cl f = w) (f0 : 0 ≤ f) (f1 : f < 9) (l0 : 0 ≤ l) (l1 : l < 72) : dmM m C (up D w l v) F (up E (m + 6) (9 * l + f) v) := by
  subst hf
  have cb := cl_b f
  refine ⟨by rw [up_ne (by omega)]; exact ed_38 h, by rw [up_ne (by omega), up_ne (by omega)]; exact ed_h h, fun f' l' a b x y => ?_, fun g a b => ?_, fun l' a b => ?_⟩
  · rw [up_ne (by omega)] at y
    by_cases z : f' = f ∧ l' = l
    · rw [z.1, z.2, up_eq, up_eq]
    · have : ¬ (cl f' = cl f ∧ l' = l) := fun w => z ⟨cl_inj a b f0 f1 w.1, w.2⟩
      rw [up_ne (by omega), up_ne (by omega)]
      exact ed_r h f' l' a b x y
  · rw [up_ne (by omega), up_ne (by omega), up_ne (by omega), up_ne (by omega)]
    exact ed_t h g a b
  · rw [up_ne (by omega)] at b
    rw [up_ne (by omega), up_ne (by omega), up_ne (by omega)]
    exact ed_o h l' a b
section DAYM
variable {L : Int → Int} {R F E : Int → Int → Int} {N : Nat} {Q : xQ} {m c l g : Int} {C : Cy} {D : Int → Int → Int}
theorem sM_isAtEnd (hS : dmS m c C L R F E) (hX : dmM m C D F E) (hl : ldV C D l) (hn : D 10 1 ≤ 72) (h0 : 0 ≤ l) (h1 : l < D 10 1) (h1' : gah C D l = -1 → Q 1 (L, R, F, E, N)) (h0' : gah C D l ≠ -1 → Q 0 (L, R, F, E, N)) : T_X10_isAtEnd [m, l] (L, R, F, E, N) Q := by
  have hT := es_t hS
  have pm := mt_p hT
  have b4 := cw_4 (es_w hS)
  have gb := gah_v (es_w hS) hl
  have r8 : E (m + 6) (9 * l + 8) = D 8 l := ed_r hX 8 l (by omega) (by omega) h0 h1
  have o0 := (ed_o hX l h0 h1).1
  have wy := (es_y hS _ hl.1.1 hl.1.2 hl.2.1).1
  have a0 := hl.1
  repeat' first
    | exact absurd hc (by decide)
    | simp (disch := omega) only [ub_X10_isAtEnd_31, ue_X10_isAtEnd, t_X10_isAtEnd, zLg, zRf, zFq, zEl, zNz, zUf, zUe, zUr, zCe, zSn, gd_0, gd_1, gd_2, gd_3, gd_4, gd_5, gd_6, gd_7, gd_8, gd_9, gd_10, gd_11, gd_12, gd_13, gd_14, gd_15, gd_16, gd_17, gd_18, gd_19, se_0, se_1, se_2, se_3, se_4, se_5, se_6, se_7, se_8, se_9, se_10, se_11, se_12, se_13, se_14, se_15, se_16, se_17, se_18, se_19, e_const, e_load, e_store, e_iinc, e_dup, e_dup2, e_pop, e_iadd, e_isub, e_imul, e_ladd, e_lsub, e_lmul, e_iaddw, e_isubw, e_imulw, e_laddw, e_lsubw, e_lmulw, e_iand, e_ior, e_ishl, e_ishr, e_iushr, e_lcmp, e_imax, e_imin, e_idiv, e_irem, e_ldiv, e_lrem, e_i2l, e_i2b, e_l2i, e_i2c, e_getF, e_getR, e_putF, e_putR, e_putz, e_ald, e_aldR, e_ast, e_astb, e_astz, e_asta, e_len, e_acopy, e_new, e_newa, e_mna, e_this, e_room, e_call0, e_callv0, e_call1, e_callv1, e_inv1, e_invv1, e_call2, e_callv2, e_inv2, e_invv2, e_call3, e_callv3, e_inv3, e_invv3, e_call4, e_callv4, e_inv4, e_invv4, e_call5, e_callv5, e_inv5, e_invv5, e_call6, e_callv6, e_inv6, e_invv6, e_call7, e_callv7, e_inv7, e_invv7, e_call8, e_callv8, e_inv8, e_invv8, e_ret, e_retz, e_retc, e_retb, e_retv, e_skip, e_sco, e_tlen, e_tat, e_iz_eq0, e_iz_eq1, e_iz_ne0, e_iz_ne1, add0, sc_d, sc_t, inI_e, inL_e, up_eq, true_or, or_true, or_false, false_or, and_true, true_and, not_false_eq_true, Int.reduceAdd, Int.reduceSub, Int.reduceMul, Int.reduceNeg, r8, o0, wy, mt_32 hT, mt_34 hT, mt_37 hT, mt_l6 hT, mt_l8 hT, mt_l11 hT]
    | with_reducible first | refine izl_lt (fun hc => ?_) (fun hc => ?_) | refine izl_ge (fun hc => ?_) (fun hc => ?_) | refine izl_eq (fun hc => ?_) (fun hc => ?_) | refine ic_ge (fun hc => ?_) (fun hc => ?_) | refine ic_lt (fun hc => ?_) (fun hc => ?_) | refine ic_ne (fun hc => ?_) (fun hc => ?_) | refine ic_eq (fun hc => ?_) (fun hc => ?_) | refine ic_le (fun hc => ?_) (fun hc => ?_) | refine ic_gt (fun hc => ?_) (fun hc => ?_) | refine iz_eq (fun hc => ?_) (fun hc => ?_) | refine iz_ne (fun hc => ?_) (fun hc => ?_) | refine iz_lt (fun hc => ?_) (fun hc => ?_) | refine iz_ge (fun hc => ?_) (fun hc => ?_) | refine iz_gt (fun hc => ?_) (fun hc => ?_) | refine iz_le (fun hc => ?_) (fun hc => ?_) | refine iz_nu (fun hc => ?_) (fun hc => ?_) | refine iz_nn (fun hc => ?_) (fun hc => ?_)
    | omega
    | (exfalso; omega)
  · exact h0' (by omega)
  · exact h1' (by omega)
theorem sM_gateNext (hS : dmS m c C L R F E) (hX : dmM m C D F E) (hl : ldV C D l) (hn : D 10 1 ≤ 72) (h0 : 0 ≤ l) (h1 : l < D 10 1) (h8 : D 8 l < bO C (D 0 l) 5) (hQ : Q (gah C D l) (L, R, F, E, N)) : T_X10_gateNext [m, l] (L, R, F, E, N) Q := by
  have hT := es_t hS
  have pm := mt_p hT
  have b4 := cw_4 (es_w hS)
  have n5 := bO_5 (es_w hS) hl.1.1 hl.1.2
  have r8 : E (m + 6) (9 * l + 8) = D 8 l := ed_r hX 8 l (by omega) (by omega) h0 h1
  have o0 := (ed_o hX l h0 h1).1
  have wy := (es_y hS _ hl.1.1 hl.1.2 hl.2.1).2 (D 8 l) hl.2.2.1 h8
  have a0 := hl.1
  have a8 := hl.2.2
  have eg : gah C D l = gO C (D 0 l) (D 8 l).toNat := if_pos h8
  rw [eg] at hQ
  simp (disch := omega) only [ue_X10_gateNext, t_X10_gateNext, zLg, zRf, zFq, zEl, zNz, zUf, zUe, zUr, zCe, zSn, gd_0, gd_1, gd_2, gd_3, gd_4, gd_5, gd_6, gd_7, gd_8, gd_9, gd_10, gd_11, gd_12, gd_13, gd_14, gd_15, gd_16, gd_17, gd_18, gd_19, se_0, se_1, se_2, se_3, se_4, se_5, se_6, se_7, se_8, se_9, se_10, se_11, se_12, se_13, se_14, se_15, se_16, se_17, se_18, se_19, e_const, e_load, e_store, e_iinc, e_dup, e_dup2, e_pop, e_iadd, e_isub, e_imul, e_ladd, e_lsub, e_lmul, e_iaddw, e_isubw, e_imulw, e_laddw, e_lsubw, e_lmulw, e_iand, e_ior, e_ishl, e_ishr, e_iushr, e_lcmp, e_imax, e_imin, e_idiv, e_irem, e_ldiv, e_lrem, e_i2l, e_i2b, e_l2i, e_i2c, e_getF, e_getR, e_putF, e_putR, e_putz, e_ald, e_aldR, e_ast, e_astb, e_astz, e_asta, e_len, e_acopy, e_new, e_newa, e_mna, e_this, e_room, e_call0, e_callv0, e_call1, e_callv1, e_inv1, e_invv1, e_call2, e_callv2, e_inv2, e_invv2, e_call3, e_callv3, e_inv3, e_invv3, e_call4, e_callv4, e_inv4, e_invv4, e_call5, e_callv5, e_inv5, e_invv5, e_call6, e_callv6, e_inv6, e_invv6, e_call7, e_callv7, e_inv7, e_invv7, e_call8, e_callv8, e_inv8, e_invv8, e_ret, e_retz, e_retc, e_retb, e_retv, e_skip, e_sco, e_tlen, e_tat, e_iz_eq0, e_iz_eq1, e_iz_ne0, e_iz_ne1, add0, sc_d, sc_t, inI_e, inL_e, up_eq, true_or, or_true, or_false, false_or, and_true, true_and, not_false_eq_true, Int.reduceAdd, Int.reduceSub, Int.reduceMul, Int.reduceNeg, r8, o0, wy, mt_32 hT, mt_34 hT, mt_36 hT, mt_l6 hT, mt_l8 hT, mt_l10 hT]
  exact hQ
theorem sM_placeNext (hS : dmS m c C L R F E) (hX : dmM m C D F E) (hl : ldV C D l) (hn : D 10 1 ≤ 72) (h0 : 0 ≤ l) (h1 : l < D 10 1) (hQ : Q (plah C D l) (L, R, F, E, N)) : T_X10_placeNext [m, l] (L, R, F, E, N) Q := by
  have hT := es_t hS
  have hTc := es_c hS
  have hM := es_m hS
  have hW := es_w hS
  have hRc := es_3 hS
  have pm := mt_p hT
  have pc := mc_p hTc
  have b4 := cw_4 hW
  have gb := gah_v hW hl
  have o0 := (ed_o hX l h0 h1).1
  have a0 := hl.1
  have e : plah C D l = if gah C D l = -1 then C 5 (D 0 l) 4 else C 2 (gah C D l) 1 := rfl
  repeat' first
    | exact absurd hc (by decide)
    | with_reducible refine sM_isAtEnd hS hX hl hn h0 h1 (fun hz => ?_) (fun hz => ?_)
    | with_reducible refine sM_gateNext hS hX hl hn h0 h1 ?_ ?_
    | with_reducible refine sM_of hT hM hW ?_ ?_ ?_ ?_ ?_
    | simp (disch := omega) only [ub_X10_placeNext_35, ue_X10_placeNext, t_X10_placeNext, zLg, zRf, zFq, zEl, zNz, zUf, zUe, zUr, zCe, zSn, gd_0, gd_1, gd_2, gd_3, gd_4, gd_5, gd_6, gd_7, gd_8, gd_9, gd_10, gd_11, gd_12, gd_13, gd_14, gd_15, gd_16, gd_17, gd_18, gd_19, se_0, se_1, se_2, se_3, se_4, se_5, se_6, se_7, se_8, se_9, se_10, se_11, se_12, se_13, se_14, se_15, se_16, se_17, se_18, se_19, e_const, e_load, e_store, e_iinc, e_dup, e_dup2, e_pop, e_iadd, e_isub, e_imul, e_ladd, e_lsub, e_lmul, e_iaddw, e_isubw, e_imulw, e_laddw, e_lsubw, e_lmulw, e_iand, e_ior, e_ishl, e_ishr, e_iushr, e_lcmp, e_imax, e_imin, e_idiv, e_irem, e_ldiv, e_lrem, e_i2l, e_i2b, e_l2i, e_i2c, e_getF, e_getR, e_putF, e_putR, e_putz, e_ald, e_aldR, e_ast, e_astb, e_astz, e_asta, e_len, e_acopy, e_new, e_newa, e_mna, e_this, e_room, e_call0, e_callv0, e_call1, e_callv1, e_inv1, e_invv1, e_call2, e_callv2, e_inv2, e_invv2, e_call3, e_callv3, e_inv3, e_invv3, e_call4, e_callv4, e_inv4, e_invv4, e_call5, e_callv5, e_inv5, e_invv5, e_call6, e_callv6, e_inv6, e_invv6, e_call7, e_callv7, e_inv7, e_invv7, e_call8, e_callv8, e_inv8, e_invv8, e_ret, e_retz, e_retc, e_retb, e_retv, e_skip, e_sco, e_tlen, e_tat, e_iz_eq0, e_iz_eq1, e_iz_ne0, e_iz_ne1, add0, sc_d, sc_t, inI_e, inL_e, up_eq, true_or, or_true, or_false, false_or, and_true, true_and, not_false_eq_true, Int.reduceAdd, Int.reduceSub, Int.reduceMul, Int.reduceNeg, o0, hRc, mt_34 hT, mt_l8 hT, mc_24 hTc, mc_l19 hTc, mm_o4 hM]
    | with_reducible first | refine izl_lt (fun hc => ?_) (fun hc => ?_) | refine izl_ge (fun hc => ?_) (fun hc => ?_) | refine izl_eq (fun hc => ?_) (fun hc => ?_) | refine ic_ge (fun hc => ?_) (fun hc => ?_) | refine ic_lt (fun hc => ?_) (fun hc => ?_) | refine ic_ne (fun hc => ?_) (fun hc => ?_) | refine ic_eq (fun hc => ?_) (fun hc => ?_) | refine ic_le (fun hc => ?_) (fun hc => ?_) | refine ic_gt (fun hc => ?_) (fun hc => ?_) | refine iz_eq (fun hc => ?_) (fun hc => ?_) | refine iz_ne (fun hc => ?_) (fun hc => ?_) | refine iz_lt (fun hc => ?_) (fun hc => ?_) | refine iz_ge (fun hc => ?_) (fun hc => ?_) | refine iz_gt (fun hc => ?_) (fun hc => ?_) | refine iz_le (fun hc => ?_) (fun hc => ?_) | refine iz_nu (fun hc => ?_) (fun hc => ?_) | refine iz_nn (fun hc => ?_) (fun hc => ?_)
    | omega
    | (exfalso; omega)
  · rw [e, if_pos hz] at hQ; exact hQ
  · rw [e, if_neg hz] at hQ; exact hQ
theorem sM_comes (hS : dmS m c C L R F E) (hX : dmM m C D F E) (hl : ldV C D l) (hn : D 10 1 ≤ 72) (h0 : 0 ≤ l) (h1 : l < D 10 1) (hQ : ∀ E' : Int → Int → Int, dmM m C (arD C D l) F E' → frW m E E' → Q 0 (L, R, F, E', N)) : T_X10_comes [m, l] (L, R, F, E, N) Q := by
  have hT := es_t hS
  have pm := mt_p hT
  have eh := ed_h hX
  have e : arD C D l = if gah C D l = -1 then up (up D 3 l 5) 7 l (D 10 0) else up (up D 3 l 3) 9 l (D 10 0) := rfl
  repeat' first
    | exact absurd hc (by decide)
    | with_reducible refine sM_isAtEnd hS hX hl hn h0 h1 (fun hz => ?_) (fun hz => ?_)
    | simp (disch := omega) only [ub_X10_comes_68, ue_X10_comes, t_X10_comes, zLg, zRf, zFq, zEl, zNz, zUf, zUe, zUr, zCe, zSn, gd_0, gd_1, gd_2, gd_3, gd_4, gd_5, gd_6, gd_7, gd_8, gd_9, gd_10, gd_11, gd_12, gd_13, gd_14, gd_15, gd_16, gd_17, gd_18, gd_19, se_0, se_1, se_2, se_3, se_4, se_5, se_6, se_7, se_8, se_9, se_10, se_11, se_12, se_13, se_14, se_15, se_16, se_17, se_18, se_19, e_const, e_load, e_store, e_iinc, e_dup, e_dup2, e_pop, e_iadd, e_isub, e_imul, e_ladd, e_lsub, e_lmul, e_iaddw, e_isubw, e_imulw, e_laddw, e_lsubw, e_lmulw, e_iand, e_ior, e_ishl, e_ishr, e_iushr, e_lcmp, e_imax, e_imin, e_idiv, e_irem, e_ldiv, e_lrem, e_i2l, e_i2b, e_l2i, e_i2c, e_getF, e_getR, e_putF, e_putR, e_putz, e_ald, e_aldR, e_ast, e_astb, e_astz, e_asta, e_len, e_acopy, e_new, e_newa, e_mna, e_this, e_room, e_call0, e_callv0, e_call1, e_callv1, e_inv1, e_invv1, e_call2, e_callv2, e_inv2, e_invv2, e_call3, e_callv3, e_inv3, e_invv3, e_call4, e_callv4, e_inv4, e_invv4, e_call5, e_callv5, e_inv5, e_invv5, e_call6, e_callv6, e_inv6, e_invv6, e_call7, e_callv7, e_inv7, e_invv7, e_call8, e_callv8, e_inv8, e_invv8, e_ret, e_retz, e_retc, e_retb, e_retv, e_skip, e_sco, e_tlen, e_tat, e_iz_eq0, e_iz_eq1, e_iz_ne0, e_iz_ne1, add0, sc_d, sc_t, inI_e, inL_e, up_eq, true_or, or_true, or_false, false_or, and_true, true_and, not_false_eq_true, Int.reduceAdd, Int.reduceSub, Int.reduceMul, Int.reduceNeg, up_ne, eh, mt_32 hT, mt_l6 hT]
    | with_reducible first | refine izl_lt (fun hc => ?_) (fun hc => ?_) | refine izl_ge (fun hc => ?_) (fun hc => ?_) | refine izl_eq (fun hc => ?_) (fun hc => ?_) | refine ic_ge (fun hc => ?_) (fun hc => ?_) | refine ic_lt (fun hc => ?_) (fun hc => ?_) | refine ic_ne (fun hc => ?_) (fun hc => ?_) | refine ic_eq (fun hc => ?_) (fun hc => ?_) | refine ic_le (fun hc => ?_) (fun hc => ?_) | refine ic_gt (fun hc => ?_) (fun hc => ?_) | refine iz_eq (fun hc => ?_) (fun hc => ?_) | refine iz_ne (fun hc => ?_) (fun hc => ?_) | refine iz_lt (fun hc => ?_) (fun hc => ?_) | refine iz_ge (fun hc => ?_) (fun hc => ?_) | refine iz_gt (fun hc => ?_) (fun hc => ?_) | refine iz_le (fun hc => ?_) (fun hc => ?_) | refine iz_nu (fun hc => ?_) (fun hc => ?_) | refine iz_nn (fun hc => ?_) (fun hc => ?_)
    | omega
    | (exfalso; omega)
  · refine hQ _ ?_ (frW.up.tr frW.up)
    rw [e, if_pos hz]
    exact dm_up (dm_up hX 2 3 l 5 rfl (by omega) (by omega) h0 (by omega)) 6 7 l _ rfl (by omega) (by omega) h0 (by omega)
  · refine hQ _ ?_ (frW.up.tr frW.up)
    rw [e, if_neg hz]
    exact dm_up (dm_up hX 2 3 l 3 rfl (by omega) (by omega) h0 (by omega)) 7 9 l _ rfl (by omega) (by omega) h0 (by omega)
theorem sM_moves (hS : dmS m c C L R F E) (hX : dmM m C D F E) (hw : dWf C D) (h0 : 0 ≤ l) (h1 : l < D 10 1) (hQ : ∀ E' : Int → Int → Int, dmM m C (mvD C D l) F E' → frW m E E' → Q 0 (L, R, F, E', N)) : T_X10_moves [m, l] (L, R, F, E, N) Q := by
  have hT := es_t hS
  have hM := es_m hS
  have hW := es_w hS
  have pm := mt_p hT
  have b0 := cw_0 hW
  have hn := hw.2.1
  have hl := hw.2.2.1 l h0 h1
  have hl' := hl
  obtain ⟨a0, af, a1, a2, a3, a4, a6, a8, a9⟩ := hl'
  have hv := hl.v
  have r1 : E (m + 6) (9 * l + 0) = D 1 l := ed_r hX 0 l (by omega) (by omega) h0 h1
  have r2 : E (m + 6) (9 * l + 1) = D 2 l := ed_r hX 1 l (by omega) (by omega) h0 h1
  have r3 : E (m + 6) (9 * l + 2) = D 3 l := ed_r hX 2 l (by omega) (by omega) h0 h1
  have r4 : E (m + 6) (9 * l + 3) = D 4 l := ed_r hX 3 l (by omega) (by omega) h0 h1
  have r8 : E (m + 6) (9 * l + 8) = D 8 l := ed_r hX 8 l (by omega) (by omega) h0 h1
  have hX1 : dmM m C (up D 4 l (D 4 l - 1)) F (up E (m + 6) (9 * l + 3) (D 4 l - 1)) := dm_up hX 3 4 l _ rfl (by omega) (by omega) h0 (by omega)
  have hS1 := hS.fw (frW.up (E := E) (i := 9 * l + 3) (v := D 4 l - 1))
  have hv1 : ldV C (up D 4 l (D 4 l - 1)) l := hv.up (by omega)
  have e10 : up D 4 l (D 4 l - 1) 10 1 = D 10 1 := up_ne (by omega)
  by_cases hs : D 3 l ≠ 2 ∧ D 3 l ≠ 4
  · have em : mvD C D l = D := if_pos hs
    rw [em] at hQ
    repeat' first
      | exact absurd hc (by decide)
      | simp (disch := omega) only [ub_X10_moves_194, ub_X10_moves_142, ub_X10_moves_30, ue_X10_moves, t_X10_moves, zLg, zRf, zFq, zEl, zNz, zUf, zUe, zUr, zCe, zSn, gd_0, gd_1, gd_2, gd_3, gd_4, gd_5, gd_6, gd_7, gd_8, gd_9, gd_10, gd_11, gd_12, gd_13, gd_14, gd_15, gd_16, gd_17, gd_18, gd_19, se_0, se_1, se_2, se_3, se_4, se_5, se_6, se_7, se_8, se_9, se_10, se_11, se_12, se_13, se_14, se_15, se_16, se_17, se_18, se_19, e_const, e_load, e_store, e_iinc, e_dup, e_dup2, e_pop, e_iadd, e_isub, e_imul, e_ladd, e_lsub, e_lmul, e_iaddw, e_isubw, e_imulw, e_laddw, e_lsubw, e_lmulw, e_iand, e_ior, e_ishl, e_ishr, e_iushr, e_lcmp, e_imax, e_imin, e_idiv, e_irem, e_ldiv, e_lrem, e_i2l, e_i2b, e_l2i, e_i2c, e_getF, e_getR, e_putF, e_putR, e_putz, e_ald, e_aldR, e_ast, e_astb, e_astz, e_asta, e_len, e_acopy, e_new, e_newa, e_mna, e_this, e_room, e_call0, e_callv0, e_call1, e_callv1, e_inv1, e_invv1, e_call2, e_callv2, e_inv2, e_invv2, e_call3, e_callv3, e_inv3, e_invv3, e_call4, e_callv4, e_inv4, e_invv4, e_call5, e_callv5, e_inv5, e_invv5, e_call6, e_callv6, e_inv6, e_invv6, e_call7, e_callv7, e_inv7, e_invv7, e_call8, e_callv8, e_inv8, e_invv8, e_ret, e_retz, e_retc, e_retb, e_retv, e_skip, e_sco, e_tlen, e_tat, e_iz_eq0, e_iz_eq1, e_iz_ne0, e_iz_ne1, add0, sc_d, sc_t, inI_e, inL_e, up_eq, true_or, or_true, or_false, false_or, and_true, true_and, not_false_eq_true, Int.reduceAdd, Int.reduceSub, Int.reduceMul, Int.reduceNeg, r3, mt_32 hT, mt_l6 hT]
      | with_reducible first | refine izl_lt (fun hc => ?_) (fun hc => ?_) | refine izl_ge (fun hc => ?_) (fun hc => ?_) | refine izl_eq (fun hc => ?_) (fun hc => ?_) | refine ic_ge (fun hc => ?_) (fun hc => ?_) | refine ic_lt (fun hc => ?_) (fun hc => ?_) | refine ic_ne (fun hc => ?_) (fun hc => ?_) | refine ic_eq (fun hc => ?_) (fun hc => ?_) | refine ic_le (fun hc => ?_) (fun hc => ?_) | refine ic_gt (fun hc => ?_) (fun hc => ?_) | refine iz_eq (fun hc => ?_) (fun hc => ?_) | refine iz_ne (fun hc => ?_) (fun hc => ?_) | refine iz_lt (fun hc => ?_) (fun hc => ?_) | refine iz_ge (fun hc => ?_) (fun hc => ?_) | refine iz_gt (fun hc => ?_) (fun hc => ?_) | refine iz_le (fun hc => ?_) (fun hc => ?_) | refine iz_nu (fun hc => ?_) (fun hc => ?_) | refine iz_nn (fun hc => ?_) (fun hc => ?_)
      | omega
      | (exfalso; omega)
    exact hQ E hX frW.rf
  · have em : mvD C D l = if 0 < D 4 l - 1 then up D 4 l (D 4 l - 1) else if D 3 l = 2 then lcD C (up D 4 l (D 4 l - 1)) l else lgD C (up D 4 l (D 4 l - 1)) l := if_neg hs
    by_cases h4 : 0 < D 4 l - 1
    · rw [if_pos h4] at em
      rw [em] at hQ
      repeat' first
        | exact absurd hc (by decide)
        | simp (disch := omega) only [ub_X10_moves_194, ub_X10_moves_142, ub_X10_moves_30, ue_X10_moves, t_X10_moves, zLg, zRf, zFq, zEl, zNz, zUf, zUe, zUr, zCe, zSn, gd_0, gd_1, gd_2, gd_3, gd_4, gd_5, gd_6, gd_7, gd_8, gd_9, gd_10, gd_11, gd_12, gd_13, gd_14, gd_15, gd_16, gd_17, gd_18, gd_19, se_0, se_1, se_2, se_3, se_4, se_5, se_6, se_7, se_8, se_9, se_10, se_11, se_12, se_13, se_14, se_15, se_16, se_17, se_18, se_19, e_const, e_load, e_store, e_iinc, e_dup, e_dup2, e_pop, e_iadd, e_isub, e_imul, e_ladd, e_lsub, e_lmul, e_iaddw, e_isubw, e_imulw, e_laddw, e_lsubw, e_lmulw, e_iand, e_ior, e_ishl, e_ishr, e_iushr, e_lcmp, e_imax, e_imin, e_idiv, e_irem, e_ldiv, e_lrem, e_i2l, e_i2b, e_l2i, e_i2c, e_getF, e_getR, e_putF, e_putR, e_putz, e_ald, e_aldR, e_ast, e_astb, e_astz, e_asta, e_len, e_acopy, e_new, e_newa, e_mna, e_this, e_room, e_call0, e_callv0, e_call1, e_callv1, e_inv1, e_invv1, e_call2, e_callv2, e_inv2, e_invv2, e_call3, e_callv3, e_inv3, e_invv3, e_call4, e_callv4, e_inv4, e_invv4, e_call5, e_callv5, e_inv5, e_invv5, e_call6, e_callv6, e_inv6, e_invv6, e_call7, e_callv7, e_inv7, e_invv7, e_call8, e_callv8, e_inv8, e_invv8, e_ret, e_retz, e_retc, e_retb, e_retv, e_skip, e_sco, e_tlen, e_tat, e_iz_eq0, e_iz_eq1, e_iz_ne0, e_iz_ne1, add0, sc_d, sc_t, inI_e, inL_e, up_eq, true_or, or_true, or_false, false_or, and_true, true_and, not_false_eq_true, Int.reduceAdd, Int.reduceSub, Int.reduceMul, Int.reduceNeg, up_ne, r3, r4, mt_32 hT, mt_l6 hT]
        | with_reducible first | refine izl_lt (fun hc => ?_) (fun hc => ?_) | refine izl_ge (fun hc => ?_) (fun hc => ?_) | refine izl_eq (fun hc => ?_) (fun hc => ?_) | refine ic_ge (fun hc => ?_) (fun hc => ?_) | refine ic_lt (fun hc => ?_) (fun hc => ?_) | refine ic_ne (fun hc => ?_) (fun hc => ?_) | refine ic_eq (fun hc => ?_) (fun hc => ?_) | refine ic_le (fun hc => ?_) (fun hc => ?_) | refine ic_gt (fun hc => ?_) (fun hc => ?_) | refine iz_eq (fun hc => ?_) (fun hc => ?_) | refine iz_ne (fun hc => ?_) (fun hc => ?_) | refine iz_lt (fun hc => ?_) (fun hc => ?_) | refine iz_ge (fun hc => ?_) (fun hc => ?_) | refine iz_gt (fun hc => ?_) (fun hc => ?_) | refine iz_le (fun hc => ?_) (fun hc => ?_) | refine iz_nu (fun hc => ?_) (fun hc => ?_) | refine iz_nn (fun hc => ?_) (fun hc => ?_)
        | omega
        | (exfalso; omega)
      all_goals exact hQ _ hX1 frW.up
    · rw [if_neg h4] at em
      by_cases h2 : D 3 l = 2
      · rw [if_pos h2] at em
        have hX2 : dmM m C (up (up D 4 l (D 4 l - 1)) 6 l (-2)) F (up (up E (m + 6) (9 * l + 3) (D 4 l - 1)) (m + 6) (9 * l + 5) (-2)) := dm_up hX1 5 6 l _ rfl (by omega) (by omega) h0 (by omega)
        have hS2 := hS1.fw (frW.up (E := up E (m + 6) (9 * l + 3) (D 4 l - 1)) (i := 9 * l + 5) (v := -2))
        have hv2 : ldV C (up (up D 4 l (D 4 l - 1)) 6 l (-2)) l := hv1.up (by omega)
        have e11 : up (up D 4 l (D 4 l - 1)) 6 l (-2) 10 1 = D 10 1 := by simp (disch := omega) only [up_ne]
        have ep : plah C (up (up D 4 l (D 4 l - 1)) 6 l (-2)) l = plah C (up D 4 l (D 4 l - 1)) l := plah_eq (up_ne (by omega)) (up_ne (by omega))
        repeat' first
          | exact absurd hc (by decide)
          | with_reducible refine sM_placeNext hS2 hX2 hv2 ?_ h0 ?_ ?_
          | simp (disch := omega) only [ub_X10_moves_194, ub_X10_moves_142, ub_X10_moves_30, ue_X10_moves, t_X10_moves, zLg, zRf, zFq, zEl, zNz, zUf, zUe, zUr, zCe, zSn, gd_0, gd_1, gd_2, gd_3, gd_4, gd_5, gd_6, gd_7, gd_8, gd_9, gd_10, gd_11, gd_12, gd_13, gd_14, gd_15, gd_16, gd_17, gd_18, gd_19, se_0, se_1, se_2, se_3, se_4, se_5, se_6, se_7, se_8, se_9, se_10, se_11, se_12, se_13, se_14, se_15, se_16, se_17, se_18, se_19, e_const, e_load, e_store, e_iinc, e_dup, e_dup2, e_pop, e_iadd, e_isub, e_imul, e_ladd, e_lsub, e_lmul, e_iaddw, e_isubw, e_imulw, e_laddw, e_lsubw, e_lmulw, e_iand, e_ior, e_ishl, e_ishr, e_iushr, e_lcmp, e_imax, e_imin, e_idiv, e_irem, e_ldiv, e_lrem, e_i2l, e_i2b, e_l2i, e_i2c, e_getF, e_getR, e_putF, e_putR, e_putz, e_ald, e_aldR, e_ast, e_astb, e_astz, e_asta, e_len, e_acopy, e_new, e_newa, e_mna, e_this, e_room, e_call0, e_callv0, e_call1, e_callv1, e_inv1, e_invv1, e_call2, e_callv2, e_inv2, e_invv2, e_call3, e_callv3, e_inv3, e_invv3, e_call4, e_callv4, e_inv4, e_invv4, e_call5, e_callv5, e_inv5, e_invv5, e_call6, e_callv6, e_inv6, e_invv6, e_call7, e_callv7, e_inv7, e_invv7, e_call8, e_callv8, e_inv8, e_invv8, e_ret, e_retz, e_retc, e_retb, e_retv, e_skip, e_sco, e_tlen, e_tat, e_iz_eq0, e_iz_eq1, e_iz_ne0, e_iz_ne1, add0, sc_d, sc_t, inI_e, inL_e, up_eq, true_or, or_true, or_false, false_or, and_true, true_and, not_false_eq_true, Int.reduceAdd, Int.reduceSub, Int.reduceMul, Int.reduceNeg, up_ne, r3, r4, ep, mt_32 hT, mt_l6 hT]
          | with_reducible first | refine izl_lt (fun hc => ?_) (fun hc => ?_) | refine izl_ge (fun hc => ?_) (fun hc => ?_) | refine izl_eq (fun hc => ?_) (fun hc => ?_) | refine ic_ge (fun hc => ?_) (fun hc => ?_) | refine ic_lt (fun hc => ?_) (fun hc => ?_) | refine ic_ne (fun hc => ?_) (fun hc => ?_) | refine ic_eq (fun hc => ?_) (fun hc => ?_) | refine ic_le (fun hc => ?_) (fun hc => ?_) | refine ic_gt (fun hc => ?_) (fun hc => ?_) | refine iz_eq (fun hc => ?_) (fun hc => ?_) | refine iz_ne (fun hc => ?_) (fun hc => ?_) | refine iz_lt (fun hc => ?_) (fun hc => ?_) | refine iz_ge (fun hc => ?_) (fun hc => ?_) | refine iz_gt (fun hc => ?_) (fun hc => ?_) | refine iz_le (fun hc => ?_) (fun hc => ?_) | refine iz_nu (fun hc => ?_) (fun hc => ?_) | refine iz_nn (fun hc => ?_) (fun hc => ?_)
          | omega
          | (exfalso; omega)
        have hX3 := dm_up hX2 1 2 l (plah C (up D 4 l (D 4 l - 1)) l) rfl (by omega) (by omega) h0 (by omega)
        have hS3 := hS2.fw (frW.up (E := up (up E (m + 6) (9 * l + 3) (D 4 l - 1)) (m + 6) (9 * l + 5) (-2)) (i := 9 * l + 1) (v := plah C (up D 4 l (D 4 l - 1)) l))
        refine sM_comes hS3 hX3 (hv2.up (by omega)) (by simp (disch := omega) only [up_ne]; omega) h0 (by simp (disch := omega) only [up_ne]; omega) fun E' q1 q2 => ?_
        exact hQ E' (by rw [em]; exact q1) (((frW.up.tr frW.up).tr frW.up).tr q2)
      · rw [if_neg h2] at em
        have h34 : D 3 l = 4 := by omega
        have h8 : D 8 l < bO C (D 0 l) 5 := a9 (Or.inr h34)
        have e8' : up D 4 l (D 4 l - 1) 8 l = D 8 l := up_ne (by omega)
        have e0' : up D 4 l (D 4 l - 1) 0 l = D 0 l := up_ne (by omega)
        have h8' : up D 4 l (D 4 l - 1) 8 l < bO C (up D 4 l (D 4 l - 1) 0 l) 5 := by rw [e8', e0']; exact h8
        have eg : gah C (up D 4 l (D 4 l - 1)) l = gah C D l := gah_eq e0' e8'
        have gb := (gah_v hW hv).resolve_left (by omega)
        have g0 := cw_g0 hW _ gb.1 gb.2.1
        have n5 := bO_5 hW a0.1 a0.2
        have hM1 := es_m hS1
        have fin : ∀ v : Int, v = (if D 1 l = C 2 (gah C D l) 0 then C 2 (gah C D l) 0 + 1 else C 2 (gah C D l) 0) → B_X10_moves_142 Q [m, l, 9 * l, gah C D l] [v, 9 * l + 0, m + 6] (L, R, F, up E (m + 6) (9 * l + 3) (D 4 l - 1), N) 0 0 := by
          intro v hv9
          have e3 : up (up (up (up D 4 l (D 4 l - 1)) 1 l v) 8 l (D 8 l + 1)) 3 l 1 = lgD0 C (up D 4 l (D 4 l - 1)) l := by
            unfold lgD0
            rw [eg, e8', up_ne (by omega : (1 : Int) ≠ 4 ∨ l ≠ l), hv9]
          have hX3 : dmM m C (lgD0 C (up D 4 l (D 4 l - 1)) l) F (up (up (up (up E (m + 6) (9 * l + 3) (D 4 l - 1)) (m + 6) (9 * l + 0) v) (m + 6) (9 * l + 8) (D 8 l + 1)) (m + 6) (9 * l + 2) 1) := by
            rw [← e3]
            exact dm_up (dm_up (dm_up hX1 0 1 l v rfl (by omega) (by omega) h0 (by omega)) 8 8 l _ rfl (by omega) (by omega) h0 (by omega)) 2 3 l 1 rfl (by omega) (by omega) h0 (by omega)
          have hfr3 : frW m E (up (up (up (up E (m + 6) (9 * l + 3) (D 4 l - 1)) (m + 6) (9 * l + 0) v) (m + 6) (9 * l + 8) (D 8 l + 1)) (m + 6) (9 * l + 2) 1) := ((frW.up.tr frW.up).tr frW.up).tr frW.up
          have hS3 := hS.fw hfr3
          have e10' : lgD0 C (up D 4 l (D 4 l - 1)) l 10 1 = D 10 1 := by rw [← e3]; simp (disch := omega) only [up_ne]
          have e2' : lgD0 C (up D 4 l (D 4 l - 1)) l 2 l = D 2 l := by rw [← e3]; simp (disch := omega) only [up_ne]
          have e2'' : up D 4 l (D 4 l - 1) 2 l = D 2 l := up_ne (by omega)
          have hv3 : ldV C (lgD0 C (up D 4 l (D 4 l - 1)) l) l := by
            have x0 : lgD0 C (up D 4 l (D 4 l - 1)) l 0 l = D 0 l := by rw [← e3]; simp (disch := omega) only [up_ne]
            have x8 : lgD0 C (up D 4 l (D 4 l - 1)) l 8 l = D 8 l + 1 := by rw [← e3]; simp (disch := omega) only [up_ne, up_eq]
            unfold ldV
            rw [x0, x8]
            exact ⟨a0, af, by omega⟩
          have rr2 : up (up (up (up E (m + 6) (9 * l + 3) (D 4 l - 1)) (m + 6) (9 * l + 0) v) (m + 6) (9 * l + 8) (D 8 l + 1)) (m + 6) (9 * l + 2) 1 (m + 6) (9 * l + 1) = D 2 l := by simp (disch := omega) only [up_ne]; exact r2
          simp (disch := omega) only [ub_X10_moves_194, ub_X10_moves_142, ub_X10_moves_30, ue_X10_moves, t_X10_moves, zLg, zRf, zFq, zEl, zNz, zUf, zUe, zUr, zCe, zSn, gd_0, gd_1, gd_2, gd_3, gd_4, gd_5, gd_6, gd_7, gd_8, gd_9, gd_10, gd_11, gd_12, gd_13, gd_14, gd_15, gd_16, gd_17, gd_18, gd_19, se_0, se_1, se_2, se_3, se_4, se_5, se_6, se_7, se_8, se_9, se_10, se_11, se_12, se_13, se_14, se_15, se_16, se_17, se_18, se_19, e_const, e_load, e_store, e_iinc, e_dup, e_dup2, e_pop, e_iadd, e_isub, e_imul, e_ladd, e_lsub, e_lmul, e_iaddw, e_isubw, e_imulw, e_laddw, e_lsubw, e_lmulw, e_iand, e_ior, e_ishl, e_ishr, e_iushr, e_lcmp, e_imax, e_imin, e_idiv, e_irem, e_ldiv, e_lrem, e_i2l, e_i2b, e_l2i, e_i2c, e_getF, e_getR, e_putF, e_putR, e_putz, e_ald, e_aldR, e_ast, e_astb, e_astz, e_asta, e_len, e_acopy, e_new, e_newa, e_mna, e_this, e_room, e_call0, e_callv0, e_call1, e_callv1, e_inv1, e_invv1, e_call2, e_callv2, e_inv2, e_invv2, e_call3, e_callv3, e_inv3, e_invv3, e_call4, e_callv4, e_inv4, e_invv4, e_call5, e_callv5, e_inv5, e_invv5, e_call6, e_callv6, e_inv6, e_invv6, e_call7, e_callv7, e_inv7, e_invv7, e_call8, e_callv8, e_inv8, e_invv8, e_ret, e_retz, e_retc, e_retb, e_retv, e_skip, e_sco, e_tlen, e_tat, e_iz_eq0, e_iz_eq1, e_iz_ne0, e_iz_ne1, add0, sc_d, sc_t, inI_e, inL_e, up_eq, true_or, or_true, or_false, false_or, and_true, true_and, not_false_eq_true, Int.reduceAdd, Int.reduceSub, Int.reduceMul, Int.reduceNeg, up_ne, r8, mt_32 hT, mt_l6 hT]
          generalize up (up (up (up E (m + 6) (9 * l + 3) (D 4 l - 1)) (m + 6) (9 * l + 0) v) (m + 6) (9 * l + 8) (D 8 l + 1)) (m + 6) (9 * l + 2) 1 = E3 at *
          have elg : lgD C (up D 4 l (D 4 l - 1)) l = if gah C (lgD0 C (up D 4 l (D 4 l - 1)) l) l = -1 ∧ up D 4 l (D 4 l - 1) 2 l = plah C (lgD0 C (up D 4 l (D 4 l - 1)) l) l then arD C (lgD0 C (up D 4 l (D 4 l - 1)) l) l else lgD0 C (up D 4 l (D 4 l - 1)) l := rfl
          rw [e2''] at elg
          generalize lgD0 C (up D 4 l (D 4 l - 1)) l = D3 at *
          repeat' first
            | exact absurd hc (by decide)
            | with_reducible refine sM_isAtEnd hS3 hX3 hv3 ?_ h0 ?_ (fun hz => ?_) (fun hz => ?_)
            | with_reducible refine sM_placeNext hS3 hX3 hv3 ?_ h0 ?_ ?_
            | simp (disch := omega) only [ub_X10_moves_194, ub_X10_moves_142, ub_X10_moves_30, ue_X10_moves, t_X10_moves, zLg, zRf, zFq, zEl, zNz, zUf, zUe, zUr, zCe, zSn, gd_0, gd_1, gd_2, gd_3, gd_4, gd_5, gd_6, gd_7, gd_8, gd_9, gd_10, gd_11, gd_12, gd_13, gd_14, gd_15, gd_16, gd_17, gd_18, gd_19, se_0, se_1, se_2, se_3, se_4, se_5, se_6, se_7, se_8, se_9, se_10, se_11, se_12, se_13, se_14, se_15, se_16, se_17, se_18, se_19, e_const, e_load, e_store, e_iinc, e_dup, e_dup2, e_pop, e_iadd, e_isub, e_imul, e_ladd, e_lsub, e_lmul, e_iaddw, e_isubw, e_imulw, e_laddw, e_lsubw, e_lmulw, e_iand, e_ior, e_ishl, e_ishr, e_iushr, e_lcmp, e_imax, e_imin, e_idiv, e_irem, e_ldiv, e_lrem, e_i2l, e_i2b, e_l2i, e_i2c, e_getF, e_getR, e_putF, e_putR, e_putz, e_ald, e_aldR, e_ast, e_astb, e_astz, e_asta, e_len, e_acopy, e_new, e_newa, e_mna, e_this, e_room, e_call0, e_callv0, e_call1, e_callv1, e_inv1, e_invv1, e_call2, e_callv2, e_inv2, e_invv2, e_call3, e_callv3, e_inv3, e_invv3, e_call4, e_callv4, e_inv4, e_invv4, e_call5, e_callv5, e_inv5, e_invv5, e_call6, e_callv6, e_inv6, e_invv6, e_call7, e_callv7, e_inv7, e_invv7, e_call8, e_callv8, e_inv8, e_invv8, e_ret, e_retz, e_retc, e_retb, e_retv, e_skip, e_sco, e_tlen, e_tat, e_iz_eq0, e_iz_eq1, e_iz_ne0, e_iz_ne1, add0, sc_d, sc_t, inI_e, inL_e, up_eq, true_or, or_true, or_false, false_or, and_true, true_and, not_false_eq_true, Int.reduceAdd, Int.reduceSub, Int.reduceMul, Int.reduceNeg, rr2, mt_32 hT, mt_l6 hT]
            | with_reducible first | refine izl_lt (fun hc => ?_) (fun hc => ?_) | refine izl_ge (fun hc => ?_) (fun hc => ?_) | refine izl_eq (fun hc => ?_) (fun hc => ?_) | refine ic_ge (fun hc => ?_) (fun hc => ?_) | refine ic_lt (fun hc => ?_) (fun hc => ?_) | refine ic_ne (fun hc => ?_) (fun hc => ?_) | refine ic_eq (fun hc => ?_) (fun hc => ?_) | refine ic_le (fun hc => ?_) (fun hc => ?_) | refine ic_gt (fun hc => ?_) (fun hc => ?_) | refine iz_eq (fun hc => ?_) (fun hc => ?_) | refine iz_ne (fun hc => ?_) (fun hc => ?_) | refine iz_lt (fun hc => ?_) (fun hc => ?_) | refine iz_ge (fun hc => ?_) (fun hc => ?_) | refine iz_gt (fun hc => ?_) (fun hc => ?_) | refine iz_le (fun hc => ?_) (fun hc => ?_) | refine iz_nu (fun hc => ?_) (fun hc => ?_) | refine iz_nn (fun hc => ?_) (fun hc => ?_)
            | omega
            | (exfalso; omega)
          · refine hQ E3 ?_ hfr3
            rw [em, elg, if_neg (fun w => hc w.2)]
            exact hX3
          · refine sM_comes hS3 hX3 hv3 (by omega) h0 (by omega) fun E' q1 q2 => ?_
            refine hQ E' ?_ (hfr3.tr q2)
            rw [em, elg, if_pos ⟨hz, by omega⟩]
            exact q1
          · refine hQ E3 ?_ hfr3
            rw [em, elg, if_neg (fun w => hz w.1)]
            exact hX3
        have gb1 := gb.1
        repeat' first
          | exact absurd hc (by decide)
          | with_reducible refine sM_gateNext hS1 hX1 hv1 ?_ h0 ?_ h8' ?_
          | with_reducible refine sM_of hT hM1 hW ?_ ?_ ?_ ?_ ?_
          | simp (disch := omega) only [t_X10_moves, ue_X10_moves, ub_X10_moves_30, zLg, zRf, zFq, zEl, zNz, zUf, zUe, zUr, zCe, zSn, gd_0, gd_1, gd_2, gd_3, gd_4, gd_5, gd_6, gd_7, gd_8, gd_9, gd_10, gd_11, gd_12, gd_13, gd_14, gd_15, gd_16, gd_17, gd_18, gd_19, se_0, se_1, se_2, se_3, se_4, se_5, se_6, se_7, se_8, se_9, se_10, se_11, se_12, se_13, se_14, se_15, se_16, se_17, se_18, se_19, e_const, e_load, e_store, e_iinc, e_dup, e_dup2, e_pop, e_iadd, e_isub, e_imul, e_ladd, e_lsub, e_lmul, e_iaddw, e_isubw, e_imulw, e_laddw, e_lsubw, e_lmulw, e_iand, e_ior, e_ishl, e_ishr, e_iushr, e_lcmp, e_imax, e_imin, e_idiv, e_irem, e_ldiv, e_lrem, e_i2l, e_i2b, e_l2i, e_i2c, e_getF, e_getR, e_putF, e_putR, e_putz, e_ald, e_aldR, e_ast, e_astb, e_astz, e_asta, e_len, e_acopy, e_new, e_newa, e_mna, e_this, e_room, e_call0, e_callv0, e_call1, e_callv1, e_inv1, e_invv1, e_call2, e_callv2, e_inv2, e_invv2, e_call3, e_callv3, e_inv3, e_invv3, e_call4, e_callv4, e_inv4, e_invv4, e_call5, e_callv5, e_inv5, e_invv5, e_call6, e_callv6, e_inv6, e_invv6, e_call7, e_callv7, e_inv7, e_invv7, e_call8, e_callv8, e_inv8, e_invv8, e_ret, e_retz, e_retc, e_retb, e_retv, e_skip, e_sco, e_tlen, e_tat, e_iz_eq0, e_iz_eq1, e_iz_ne0, e_iz_ne1, add0, sc_d, sc_t, inI_e, inL_e, up_eq, true_or, or_true, or_false, false_or, and_true, true_and, not_false_eq_true, Int.reduceAdd, Int.reduceSub, Int.reduceMul, Int.reduceNeg, up_ne, r1, r3, r4, eg, mt_32 hT, mt_l6 hT]
          | with_reducible first | refine izl_lt (fun hc => ?_) (fun hc => ?_) | refine izl_ge (fun hc => ?_) (fun hc => ?_) | refine izl_eq (fun hc => ?_) (fun hc => ?_) | refine ic_ge (fun hc => ?_) (fun hc => ?_) | refine ic_lt (fun hc => ?_) (fun hc => ?_) | refine ic_ne (fun hc => ?_) (fun hc => ?_) | refine ic_eq (fun hc => ?_) (fun hc => ?_) | refine ic_le (fun hc => ?_) (fun hc => ?_) | refine ic_gt (fun hc => ?_) (fun hc => ?_) | refine iz_eq (fun hc => ?_) (fun hc => ?_) | refine iz_ne (fun hc => ?_) (fun hc => ?_) | refine iz_lt (fun hc => ?_) (fun hc => ?_) | refine iz_ge (fun hc => ?_) (fun hc => ?_) | refine iz_gt (fun hc => ?_) (fun hc => ?_) | refine iz_le (fun hc => ?_) (fun hc => ?_) | refine iz_nu (fun hc => ?_) (fun hc => ?_) | refine iz_nn (fun hc => ?_) (fun hc => ?_)
          | omega
          | (exfalso; omega)
        · exact fin _ (by rw [if_neg hc])
        · exact fin _ (by rw [if_pos hc])
end DAYM


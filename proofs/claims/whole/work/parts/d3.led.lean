/-! ===== led ===== -/
theorem ub_X8_led_46 {Q : xQ} {Qx : xH → Prop} {l st : List Int} {h : xH} {c n : Nat} : B_X8_led_46 Q Qx l st h c n = x_thr Qx l st h c n := rfl
theorem ub_X8_led_40 {Q : xQ} {Qx : xH → Prop} {k4 : xK} {l st : List Int} {h : xH} {c n : Nat} : B_X8_led_40 Q Qx k4 l st h c n = x_iinc 3 1 k4 l st h c n := rfl
theorem e_thr {Qx : xH → Prop} {l st : List Int} {L : Int → Int} {R F E : Int → Int → Int} {N c n : Nat} : x_thr Qx l st (L, R, F, E, N) c n = ∀ N' : Nat, N ≤ N' → Qx (L, R, F, E, N') := rfl
noncomputable def lcn (C : Cy) : Nat → Int
  | 0 => 0
  | q + 1 => lcn C q + (if bO C (q : Int) 0 = 0 then 1 else 0)
noncomputable def ldF (C : Cy) (i : Int) : Nat → Int
  | 0 => -1
  | q + 1 => if ldF C i q ≠ -1 then ldF C i q else if bO C (q : Int) 0 = 0 ∧ lcn C q = i then (q : Int) else -1
noncomputable def r_led (C : Cy) (i : Int) : Int := ldF C i (C 0 4 0).toNat
theorem lcn_s {C : Cy} {q : Nat} : lcn C (q + 1) = lcn C q + (if bO C (q : Int) 0 = 0 then 1 else 0) := rfl
theorem ldF_s {C : Cy} {i : Int} {q : Nat} : ldF C i (q + 1) = if ldF C i q ≠ -1 then ldF C i q else if bO C (q : Int) 0 = 0 ∧ lcn C q = i then (q : Int) else -1 := rfl
theorem lcn_b {C : Cy} : ∀ q : Nat, 0 ≤ lcn C q ∧ lcn C q ≤ q := by
  intro q
  induction q with
  | zero => exact ⟨Int.le_refl _, Int.le_refl _⟩
  | succ q ih =>
    rw [lcn_s]
    split <;> omega
theorem ldF_up {C : Cy} {i : Int} {q : Nat} (h : ldF C i q ≠ -1) : ∀ d : Nat, ldF C i (q + d) = ldF C i q := by
  intro d
  induction d with
  | zero => rfl
  | succ d ih => rw [show q + (d + 1) = q + d + 1 by omega, ldF_s, ih, if_pos h]
theorem ldF_n {C : Cy} {i : Int} (h : i < 0) : ∀ q : Nat, ldF C i q = -1 := by
  intro q
  induction q with
  | zero => rfl
  | succ q ih =>
    have := lcn_b (C := C) q
    rw [ldF_s, if_neg (fun z => z ih), if_neg (by omega)]
theorem ldF_at {C : Cy} {i : Int} {q : Nat} (h : ldF C i q = -1) (h1 : bO C (q : Int) 0 = 0) (h2 : lcn C q = i) (h3 : (q : Int) < C 0 4 0) : r_led C i = (q : Int) := by
  have e : ldF C i (q + 1) = (q : Int) := by rw [ldF_s, if_neg (fun z => z h), if_pos ⟨h1, h2⟩]
  unfold r_led
  rw [show (C 0 4 0).toNat = q + 1 + ((C 0 4 0).toNat - (q + 1)) by omega, ldF_up (by omega), e]
theorem ldF_no {C : Cy} {i : Int} {q : Nat} (h : ldF C i q = -1) (h1 : ¬ (bO C (q : Int) 0 = 0 ∧ lcn C q = i)) : ldF C i (q + 1) = -1 := by
  rw [ldF_s, if_neg (fun z => z h), if_neg h1]
theorem ldF_b {C : Cy} {i : Int} : ∀ q : Nat, ldF C i q = -1 ∨ (0 ≤ ldF C i q ∧ ldF C i q < q) := by
  intro q
  induction q with
  | zero => exact Or.inl rfl
  | succ q ih =>
    rw [ldF_s]
    split
    · omega
    · split <;> omega
section LED
variable {L : Int → Int} {R R' F F' E E' : Int → Int → Int} {N : Nat} {Q : xQ} {B a m c fd tr fa pl k n t i j g x y z w h r p r0 p0 r1 p1 x0 x1 x2 x3 x4 x5 : Int} {C : Cy} {tp : Int → Int} {D : Int → Int → Int} {M H : Int → Int → Int → Int} {HN : Int → Int} {Qx : xH → Prop}
theorem cX_led (hT : clT B a L R) (hM : clM B a C tp fd tr fa pl D k M n H HN R F E) (hs : stW C tp fd tr D k M n H HN) (hi : i ≤ 2147483647) (h1 : r_led C i ≠ -1 → Q (r_led C i) (L, R, F, E, N)) (h0 : r_led C i = -1 → ∀ N' : Nat, N ≤ N' → Qx (L, R, F, E, N')) : T_X8_led2 [B, i] (L, R, F, E, N) Q Qx := by
  have pB := cl_p hT
  have ca := cl_a hT
  have pa : 0 ≤ a := by omega
  have h2 := cl_2 hT
  have hC := cx_c hM
  have hW := sw_w hs
  have hct := cl_ct hT
  have bn := sw_n hs
  have bk := sw_k hs
  have bf := sw_f hs
  have b0 := cw_0 hW
  have b1 := cw_1 hW
  have b2 := cw_2 hW
  have b3 := cw_3 hW
  have b4 := cw_4 hW
  have c4 := cm_4 hC
  have r6 := cl_6 hT
  have l220 := cl_l220 hT
  show L_X8_led_4 Q Qx [B, i, i, 0] [] (L, R, F, E, N) 0 0
  unfold L_X8_led_4
  refine lpw (fun nn lo st h c' d => ∃ q : Nat, lo = [B, i, i - lcn C q, (q : Int)] ∧ st = [] ∧ h = (L, R, F, E, N) ∧ (q : Int) ≤ C 0 4 0 ∧ (nn : Int) = C 0 4 0 - q ∧ ldF C i q = -1 ∧ (0 ≤ i → lcn C q ≤ i)) ?_ (n := (C 0 4 0).toNat) ⟨0, by rw [show lcn C 0 = 0 from rfl, Int.sub_zero]; rfl, rfl, rfl, by omega, by omega, rfl, fun z => z⟩
  rintro nn kk hkk lo st h c9 s9 ⟨q, rfl, rfl, rfl, q1, hnn, hq, hli⟩
  have lb := lcn_b (C := C) q
  by_cases i0 : i < 0
  · have ok := h0 (ldF_n i0 _)
    clear hkk h1 h0
    repeat' first
      | exact absurd hc (by decide)
      | simp (disch := omega) only [ub_X8_led_46, e_thr, zLg, zRf, zFq, zEl, zNz, zUf, zUe, zUr, zCe, zSn, gd_0, gd_1, gd_2, gd_3, gd_4, gd_5, gd_6, gd_7, gd_8, gd_9, gd_10, gd_11, gd_12, gd_13, gd_14, gd_15, gd_16, gd_17, gd_18, gd_19, se_0, se_1, se_2, se_3, se_4, se_5, se_6, se_7, se_8, se_9, se_10, se_11, se_12, se_13, se_14, se_15, se_16, se_17, se_18, se_19, e_const, e_load, e_store, e_iinc, e_dup, e_dup2, e_pop, e_iadd, e_isub, e_imul, e_ladd, e_lsub, e_lmul, e_iaddw, e_isubw, e_imulw, e_laddw, e_lsubw, e_lmulw, e_iand, e_ior, e_ishl, e_ishr, e_iushr, e_lcmp, e_imax, e_imin, e_idiv, e_irem, e_ldiv, e_lrem, e_i2l, e_i2b, e_l2i, e_i2c, e_getF, e_getR, e_putF, e_putR, e_putz, e_ald, e_aldR, e_ast, e_astb, e_astz, e_asta, e_len, e_acopy, e_new, e_newa, e_mna, e_this, e_room, e_call0, e_callv0, e_call1, e_callv1, e_inv1, e_invv1, e_call2, e_callv2, e_inv2, e_invv2, e_call3, e_callv3, e_inv3, e_invv3, e_call4, e_callv4, e_inv4, e_invv4, e_call5, e_callv5, e_inv5, e_invv5, e_call6, e_callv6, e_inv6, e_invv6, e_call7, e_callv7, e_inv7, e_invv7, e_call8, e_callv8, e_inv8, e_invv8, e_ret, e_retz, e_retc, e_retb, e_retv, e_skip, e_sco, e_tlen, e_tat, e_iz_eq0, e_iz_eq1, e_iz_ne0, e_iz_ne1, add0, sc_d, sc_t, inI_e, inL_e, up_eq, true_or, or_true, or_false, false_or, and_true, true_and, not_false_eq_true, Int.reduceAdd, Int.reduceSub, Int.reduceMul, Int.reduceNeg]
      | with_reducible first | refine izl_lt (fun hc => ?_) (fun hc => ?_) | refine izl_ge (fun hc => ?_) (fun hc => ?_) | refine izl_eq (fun hc => ?_) (fun hc => ?_) | refine ic_ge (fun hc => ?_) (fun hc => ?_) | refine ic_lt (fun hc => ?_) (fun hc => ?_) | refine ic_ne (fun hc => ?_) (fun hc => ?_) | refine ic_eq (fun hc => ?_) (fun hc => ?_) | refine ic_le (fun hc => ?_) (fun hc => ?_) | refine ic_gt (fun hc => ?_) (fun hc => ?_) | refine iz_eq (fun hc => ?_) (fun hc => ?_) | refine iz_ne (fun hc => ?_) (fun hc => ?_) | refine iz_lt (fun hc => ?_) (fun hc => ?_) | refine iz_ge (fun hc => ?_) (fun hc => ?_) | refine iz_gt (fun hc => ?_) (fun hc => ?_) | refine iz_le (fun hc => ?_) (fun hc => ?_) | refine iz_nu (fun hc => ?_) (fun hc => ?_) | refine iz_nn (fun hc => ?_) (fun hc => ?_)
      | omega
      | (exfalso; omega)
    all_goals exact ok
  by_cases qe : (q : Int) < C 0 4 0
  · obtain ⟨rw1, rw2⟩ := cl_wy hT (q : Int) (by omega) (by omega)
    have rw3 := rw2.1
    have f0 : F (B + 220 + 1 + 2 * (q : Int)) 0 = bO C (q : Int) 0 := (cx_w hM (q : Int) (by omega) qe).1
    have b01 := (bO_01 C (q : Int)).1
    rcases b01 with z | z
    · rw [z] at f0
      by_cases e : lcn C q = i
      · have ok := h1 (by rw [ldF_at hq z e qe]; omega)
        rw [ldF_at hq z e qe] at ok
        clear hkk h1 h0
        repeat' first
          | exact absurd hc (by decide)
          | simp (disch := omega) only [zLg, zRf, zFq, zEl, zNz, zUf, zUe, zUr, zCe, zSn, gd_0, gd_1, gd_2, gd_3, gd_4, gd_5, gd_6, gd_7, gd_8, gd_9, gd_10, gd_11, gd_12, gd_13, gd_14, gd_15, gd_16, gd_17, gd_18, gd_19, se_0, se_1, se_2, se_3, se_4, se_5, se_6, se_7, se_8, se_9, se_10, se_11, se_12, se_13, se_14, se_15, se_16, se_17, se_18, se_19, e_const, e_load, e_store, e_iinc, e_dup, e_dup2, e_pop, e_iadd, e_isub, e_imul, e_ladd, e_lsub, e_lmul, e_iaddw, e_isubw, e_imulw, e_laddw, e_lsubw, e_lmulw, e_iand, e_ior, e_ishl, e_ishr, e_iushr, e_lcmp, e_imax, e_imin, e_idiv, e_irem, e_ldiv, e_lrem, e_i2l, e_i2b, e_l2i, e_i2c, e_getF, e_getR, e_putF, e_putR, e_putz, e_ald, e_aldR, e_ast, e_astb, e_astz, e_asta, e_len, e_acopy, e_new, e_newa, e_mna, e_this, e_room, e_call0, e_callv0, e_call1, e_callv1, e_inv1, e_invv1, e_call2, e_callv2, e_inv2, e_invv2, e_call3, e_callv3, e_inv3, e_invv3, e_call4, e_callv4, e_inv4, e_invv4, e_call5, e_callv5, e_inv5, e_invv5, e_call6, e_callv6, e_inv6, e_invv6, e_call7, e_callv7, e_inv7, e_invv7, e_call8, e_callv8, e_inv8, e_invv8, e_ret, e_retz, e_retc, e_retb, e_retv, e_skip, e_sco, e_tlen, e_tat, e_iz_eq0, e_iz_eq1, e_iz_ne0, e_iz_ne1, add0, sc_d, sc_t, inI_e, inL_e, up_eq, true_or, or_true, or_false, false_or, and_true, true_and, not_false_eq_true, Int.reduceAdd, Int.reduceSub, Int.reduceMul, Int.reduceNeg, h2, c4, r6, l220, rw1, f0]
          | with_reducible first | refine izl_lt (fun hc => ?_) (fun hc => ?_) | refine izl_ge (fun hc => ?_) (fun hc => ?_) | refine izl_eq (fun hc => ?_) (fun hc => ?_) | refine ic_ge (fun hc => ?_) (fun hc => ?_) | refine ic_lt (fun hc => ?_) (fun hc => ?_) | refine ic_ne (fun hc => ?_) (fun hc => ?_) | refine ic_eq (fun hc => ?_) (fun hc => ?_) | refine ic_le (fun hc => ?_) (fun hc => ?_) | refine ic_gt (fun hc => ?_) (fun hc => ?_) | refine iz_eq (fun hc => ?_) (fun hc => ?_) | refine iz_ne (fun hc => ?_) (fun hc => ?_) | refine iz_lt (fun hc => ?_) (fun hc => ?_) | refine iz_ge (fun hc => ?_) (fun hc => ?_) | refine iz_gt (fun hc => ?_) (fun hc => ?_) | refine iz_le (fun hc => ?_) (fun hc => ?_) | refine iz_nu (fun hc => ?_) (fun hc => ?_) | refine iz_nn (fun hc => ?_) (fun hc => ?_)
          | omega
          | (exfalso; omega)
        all_goals exact ok
      · have ok : kk [B, i, i - lcn C q + -1, (q : Int) + 1] [] (L, R, F, E, N) c9 s9 := hkk (nn - 1) _ _ _ _ _ (by omega) ⟨q + 1, by rw [lcn_s, if_pos z, show i - (lcn C q + 1) = i - lcn C q + -1 by omega]; rfl, rfl, rfl, by omega, by omega, ldF_no hq (fun y => e y.2), fun y => by rw [lcn_s, if_pos z]; have := hli y; omega⟩
        have hl2 := hli (by omega)
        clear hkk h1 h0
        repeat' first
          | exact absurd hc (by decide)
          | simp (disch := omega) only [ub_X8_led_40, zLg, zRf, zFq, zEl, zNz, zUf, zUe, zUr, zCe, zSn, gd_0, gd_1, gd_2, gd_3, gd_4, gd_5, gd_6, gd_7, gd_8, gd_9, gd_10, gd_11, gd_12, gd_13, gd_14, gd_15, gd_16, gd_17, gd_18, gd_19, se_0, se_1, se_2, se_3, se_4, se_5, se_6, se_7, se_8, se_9, se_10, se_11, se_12, se_13, se_14, se_15, se_16, se_17, se_18, se_19, e_const, e_load, e_store, e_iinc, e_dup, e_dup2, e_pop, e_iadd, e_isub, e_imul, e_ladd, e_lsub, e_lmul, e_iaddw, e_isubw, e_imulw, e_laddw, e_lsubw, e_lmulw, e_iand, e_ior, e_ishl, e_ishr, e_iushr, e_lcmp, e_imax, e_imin, e_idiv, e_irem, e_ldiv, e_lrem, e_i2l, e_i2b, e_l2i, e_i2c, e_getF, e_getR, e_putF, e_putR, e_putz, e_ald, e_aldR, e_ast, e_astb, e_astz, e_asta, e_len, e_acopy, e_new, e_newa, e_mna, e_this, e_room, e_call0, e_callv0, e_call1, e_callv1, e_inv1, e_invv1, e_call2, e_callv2, e_inv2, e_invv2, e_call3, e_callv3, e_inv3, e_invv3, e_call4, e_callv4, e_inv4, e_invv4, e_call5, e_callv5, e_inv5, e_invv5, e_call6, e_callv6, e_inv6, e_invv6, e_call7, e_callv7, e_inv7, e_invv7, e_call8, e_callv8, e_inv8, e_invv8, e_ret, e_retz, e_retc, e_retb, e_retv, e_skip, e_sco, e_tlen, e_tat, e_iz_eq0, e_iz_eq1, e_iz_ne0, e_iz_ne1, add0, sc_d, sc_t, inI_e, inL_e, up_eq, true_or, or_true, or_false, false_or, and_true, true_and, not_false_eq_true, Int.reduceAdd, Int.reduceSub, Int.reduceMul, Int.reduceNeg, h2, c4, r6, l220, rw1, f0]
          | with_reducible first | refine izl_lt (fun hc => ?_) (fun hc => ?_) | refine izl_ge (fun hc => ?_) (fun hc => ?_) | refine izl_eq (fun hc => ?_) (fun hc => ?_) | refine ic_ge (fun hc => ?_) (fun hc => ?_) | refine ic_lt (fun hc => ?_) (fun hc => ?_) | refine ic_ne (fun hc => ?_) (fun hc => ?_) | refine ic_eq (fun hc => ?_) (fun hc => ?_) | refine ic_le (fun hc => ?_) (fun hc => ?_) | refine ic_gt (fun hc => ?_) (fun hc => ?_) | refine iz_eq (fun hc => ?_) (fun hc => ?_) | refine iz_ne (fun hc => ?_) (fun hc => ?_) | refine iz_lt (fun hc => ?_) (fun hc => ?_) | refine iz_ge (fun hc => ?_) (fun hc => ?_) | refine iz_gt (fun hc => ?_) (fun hc => ?_) | refine iz_le (fun hc => ?_) (fun hc => ?_) | refine iz_nu (fun hc => ?_) (fun hc => ?_) | refine iz_nn (fun hc => ?_) (fun hc => ?_)
          | omega
          | (exfalso; omega)
        all_goals exact ok
    · rw [z] at f0
      have ok : kk [B, i, i - lcn C q, (q : Int) + 1] [] (L, R, F, E, N) c9 s9 := hkk (nn - 1) _ _ _ _ _ (by omega) ⟨q + 1, by rw [lcn_s, if_neg (by omega), Int.add_zero]; rfl, rfl, rfl, by omega, by omega, ldF_no hq (fun y => by omega), fun y => by rw [lcn_s, if_neg (by omega)]; have := hli y; omega⟩
      clear hkk h1 h0
      repeat' first
        | exact absurd hc (by decide)
        | simp (disch := omega) only [ub_X8_led_40, zLg, zRf, zFq, zEl, zNz, zUf, zUe, zUr, zCe, zSn, gd_0, gd_1, gd_2, gd_3, gd_4, gd_5, gd_6, gd_7, gd_8, gd_9, gd_10, gd_11, gd_12, gd_13, gd_14, gd_15, gd_16, gd_17, gd_18, gd_19, se_0, se_1, se_2, se_3, se_4, se_5, se_6, se_7, se_8, se_9, se_10, se_11, se_12, se_13, se_14, se_15, se_16, se_17, se_18, se_19, e_const, e_load, e_store, e_iinc, e_dup, e_dup2, e_pop, e_iadd, e_isub, e_imul, e_ladd, e_lsub, e_lmul, e_iaddw, e_isubw, e_imulw, e_laddw, e_lsubw, e_lmulw, e_iand, e_ior, e_ishl, e_ishr, e_iushr, e_lcmp, e_imax, e_imin, e_idiv, e_irem, e_ldiv, e_lrem, e_i2l, e_i2b, e_l2i, e_i2c, e_getF, e_getR, e_putF, e_putR, e_putz, e_ald, e_aldR, e_ast, e_astb, e_astz, e_asta, e_len, e_acopy, e_new, e_newa, e_mna, e_this, e_room, e_call0, e_callv0, e_call1, e_callv1, e_inv1, e_invv1, e_call2, e_callv2, e_inv2, e_invv2, e_call3, e_callv3, e_inv3, e_invv3, e_call4, e_callv4, e_inv4, e_invv4, e_call5, e_callv5, e_inv5, e_invv5, e_call6, e_callv6, e_inv6, e_invv6, e_call7, e_callv7, e_inv7, e_invv7, e_call8, e_callv8, e_inv8, e_invv8, e_ret, e_retz, e_retc, e_retb, e_retv, e_skip, e_sco, e_tlen, e_tat, e_iz_eq0, e_iz_eq1, e_iz_ne0, e_iz_ne1, add0, sc_d, sc_t, inI_e, inL_e, up_eq, true_or, or_true, or_false, false_or, and_true, true_and, not_false_eq_true, Int.reduceAdd, Int.reduceSub, Int.reduceMul, Int.reduceNeg, h2, c4, r6, l220, rw1, f0]
        | with_reducible first | refine izl_lt (fun hc => ?_) (fun hc => ?_) | refine izl_ge (fun hc => ?_) (fun hc => ?_) | refine izl_eq (fun hc => ?_) (fun hc => ?_) | refine ic_ge (fun hc => ?_) (fun hc => ?_) | refine ic_lt (fun hc => ?_) (fun hc => ?_) | refine ic_ne (fun hc => ?_) (fun hc => ?_) | refine ic_eq (fun hc => ?_) (fun hc => ?_) | refine ic_le (fun hc => ?_) (fun hc => ?_) | refine ic_gt (fun hc => ?_) (fun hc => ?_) | refine iz_eq (fun hc => ?_) (fun hc => ?_) | refine iz_ne (fun hc => ?_) (fun hc => ?_) | refine iz_lt (fun hc => ?_) (fun hc => ?_) | refine iz_ge (fun hc => ?_) (fun hc => ?_) | refine iz_gt (fun hc => ?_) (fun hc => ?_) | refine iz_le (fun hc => ?_) (fun hc => ?_) | refine iz_nu (fun hc => ?_) (fun hc => ?_) | refine iz_nn (fun hc => ?_) (fun hc => ?_)
        | omega
        | (exfalso; omega)
      all_goals exact ok
  · have eq : (C 0 4 0).toNat = q := by omega
    have ok := h0 (by unfold r_led; rw [eq]; exact hq)
    clear hkk h1 h0
    repeat' first
      | exact absurd hc (by decide)
      | simp (disch := omega) only [ub_X8_led_46, e_thr, zLg, zRf, zFq, zEl, zNz, zUf, zUe, zUr, zCe, zSn, gd_0, gd_1, gd_2, gd_3, gd_4, gd_5, gd_6, gd_7, gd_8, gd_9, gd_10, gd_11, gd_12, gd_13, gd_14, gd_15, gd_16, gd_17, gd_18, gd_19, se_0, se_1, se_2, se_3, se_4, se_5, se_6, se_7, se_8, se_9, se_10, se_11, se_12, se_13, se_14, se_15, se_16, se_17, se_18, se_19, e_const, e_load, e_store, e_iinc, e_dup, e_dup2, e_pop, e_iadd, e_isub, e_imul, e_ladd, e_lsub, e_lmul, e_iaddw, e_isubw, e_imulw, e_laddw, e_lsubw, e_lmulw, e_iand, e_ior, e_ishl, e_ishr, e_iushr, e_lcmp, e_imax, e_imin, e_idiv, e_irem, e_ldiv, e_lrem, e_i2l, e_i2b, e_l2i, e_i2c, e_getF, e_getR, e_putF, e_putR, e_putz, e_ald, e_aldR, e_ast, e_astb, e_astz, e_asta, e_len, e_acopy, e_new, e_newa, e_mna, e_this, e_room, e_call0, e_callv0, e_call1, e_callv1, e_inv1, e_invv1, e_call2, e_callv2, e_inv2, e_invv2, e_call3, e_callv3, e_inv3, e_invv3, e_call4, e_callv4, e_inv4, e_invv4, e_call5, e_callv5, e_inv5, e_invv5, e_call6, e_callv6, e_inv6, e_invv6, e_call7, e_callv7, e_inv7, e_invv7, e_call8, e_callv8, e_inv8, e_invv8, e_ret, e_retz, e_retc, e_retb, e_retv, e_skip, e_sco, e_tlen, e_tat, e_iz_eq0, e_iz_eq1, e_iz_ne0, e_iz_ne1, add0, sc_d, sc_t, inI_e, inL_e, up_eq, true_or, or_true, or_false, false_or, and_true, true_and, not_false_eq_true, Int.reduceAdd, Int.reduceSub, Int.reduceMul, Int.reduceNeg, h2, c4]
      | with_reducible first | refine izl_lt (fun hc => ?_) (fun hc => ?_) | refine izl_ge (fun hc => ?_) (fun hc => ?_) | refine izl_eq (fun hc => ?_) (fun hc => ?_) | refine ic_ge (fun hc => ?_) (fun hc => ?_) | refine ic_lt (fun hc => ?_) (fun hc => ?_) | refine ic_ne (fun hc => ?_) (fun hc => ?_) | refine ic_eq (fun hc => ?_) (fun hc => ?_) | refine ic_le (fun hc => ?_) (fun hc => ?_) | refine ic_gt (fun hc => ?_) (fun hc => ?_) | refine iz_eq (fun hc => ?_) (fun hc => ?_) | refine iz_ne (fun hc => ?_) (fun hc => ?_) | refine iz_lt (fun hc => ?_) (fun hc => ?_) | refine iz_ge (fun hc => ?_) (fun hc => ?_) | refine iz_gt (fun hc => ?_) (fun hc => ?_) | refine iz_le (fun hc => ?_) (fun hc => ?_) | refine iz_nu (fun hc => ?_) (fun hc => ?_) | refine iz_nn (fun hc => ?_) (fun hc => ?_)
      | omega
      | (exfalso; omega)
    all_goals exact ok
def qO (m : Int) (F F' E E' : Int → Int → Int) : Prop := (∀ b j : Int, (b ≠ m ∨ (1 ≤ j ∧ j < 18) ∨ 31 ≤ j) → F' b j = F b j) ∧ (∀ b j : Int, (b ≤ m + 2 ∨ m + 6 ≤ b) → b ≠ m + 12 → b ≠ m + 13 → E' b j = E b j)
theorem qO.s {m x : Int} {F E : Int → Int → Int} : qO m F (up F m 0 x) E E := ⟨fun b j z => up_ne (by omega), fun _ _ _ _ _ => rfl⟩
theorem qO.tt {m : Int} {F F' F'' E E' E'' : Int → Int → Int} (h : qO m F F' E E') (h' : qO m F' F'' E' E'') : qO m F F'' E E'' := ⟨fun b j z => (h'.1 b j z).trans (h.1 b j z), fun b j z u v => (h'.2 b j z u v).trans (h.2 b j z u v)⟩
theorem qO.f {m : Int} {F F' E E' : Int → Int → Int} (h : frS m F F') (h' : frA m E E') : qO m F F' E E' := ⟨fun b j z => h b j (by omega), fun b j z _ _ => h' b j z⟩
theorem cM_led (hM0 : rfM m c C tp fd tr fa pl D k M n H HN L R F E) (hs : stW C tp fd tr D k M n H HN) (h1 : r_led C i ≠ -1 → ∀ F' E' : Int → Int → Int, F' m 0 = 0 → qO m F F' E E' → Q (r_led C i) (L, R, F', E', N)) (h0 : r_led C i = -1 → ∀ F' E' : Int → Int → Int, F' m 0 = 1 → qO m F F' E E' → Q 0 (L, R, F', E', N)) : T_X10_led [m, i] (L, R, F, E, N) Q := by
  have pm := mt_p (rx_t hM0)
  have hW := sw_w hs
  have bn := sw_n hs
  have bk := sw_k hs
  have bf := sw_f hs
  have b0 := cw_0 hW
  have b1 := cw_1 hW
  have b2 := cw_2 hW
  have b3 := cw_3 hW
  have b4 := cw_4 hW
  have hM := hM0.fq hs (F' := up F m 0 0) (E' := E) (fun b j z => up_ne (by omega)) (fun _ _ _ _ _ => rfl)
  have hqz : qN m F (up F m 0 0) E E := qN.z
  try simp (disch := omega) only [t_X10_led, ue_X10_led, zLg, zRf, zFq, zEl, zNz, zUf, zUe, zUr, zCe, zSn, gd_0, gd_1, gd_2, gd_3, gd_4, gd_5, gd_6, gd_7, gd_8, gd_9, gd_10, gd_11, gd_12, gd_13, gd_14, gd_15, gd_16, gd_17, gd_18, gd_19, se_0, se_1, se_2, se_3, se_4, se_5, se_6, se_7, se_8, se_9, se_10, se_11, se_12, se_13, se_14, se_15, se_16, se_17, se_18, se_19, e_const, e_load, e_store, e_iinc, e_dup, e_dup2, e_pop, e_iadd, e_isub, e_imul, e_ladd, e_lsub, e_lmul, e_iaddw, e_isubw, e_imulw, e_laddw, e_lsubw, e_lmulw, e_iand, e_ior, e_ishl, e_ishr, e_iushr, e_lcmp, e_imax, e_imin, e_idiv, e_irem, e_ldiv, e_lrem, e_i2l, e_i2b, e_l2i, e_i2c, e_getF, e_getR, e_putF, e_putR, e_putz, e_ald, e_aldR, e_ast, e_astb, e_astz, e_asta, e_len, e_acopy, e_new, e_newa, e_mna, e_this, e_room, e_call0, e_callv0, e_call1, e_callv1, e_inv1, e_invv1, e_call2, e_callv2, e_inv2, e_invv2, e_call3, e_callv3, e_inv3, e_invv3, e_call4, e_callv4, e_inv4, e_invv4, e_call5, e_callv5, e_inv5, e_invv5, e_call6, e_callv6, e_inv6, e_invv6, e_call7, e_callv7, e_inv7, e_invv7, e_call8, e_callv8, e_inv8, e_invv8, e_ret, e_retz, e_retc, e_retb, e_retv, e_skip, e_sco, e_tlen, e_tat, e_iz_eq0, e_iz_eq1, e_iz_ne0, e_iz_ne1, add0, sc_d, sc_t, inI_e, inL_e, up_eq, true_or, or_true, or_false, false_or, and_true, true_and, not_false_eq_true, Int.reduceAdd, Int.reduceSub, Int.reduceMul, Int.reduceNeg]
  generalize up F m 0 0 = F1 at *
  have hS := rx_st hM
  have hq0 : qO m F F1 E E := ⟨hqz.1, hqz.2.2⟩
  have f10 := hqz.2.1
  unfold L_X10_led_9
  refine lpw (fun nn lo st h c' d => ∃ (q : Nat) (F2 E2 : Int → Int → Int), lo = [m, i, lcn C q, (q : Int)] ∧ st = [] ∧ h = (L, R, F2, E2, N) ∧ (q : Int) ≤ C 0 4 0 ∧ (nn : Int) = C 0 4 0 - q ∧ ldF C i q = -1 ∧ frS m F1 F2 ∧ frA m E E2) ?_ (n := (C 0 4 0).toNat) ⟨0, F1, E, rfl, rfl, rfl, by omega, by omega, rfl, frS.rf, frA.rf⟩
  rintro nn kk hkk lo st h c9 s9 ⟨q, F2, E2, rfl, rfl, rfl, q1, hnn, hq, fS, fA⟩
  have lb := lcn_b (C := C) q
  have f20 : F2 m 0 = 0 := (fS _ _ (by omega)).trans f10
  have hq2 : qO m F F2 E E2 := hq0.tt (qO.f fS fA)
  by_cases hz : 0 < C 0 0 0
  · obtain ⟨hdS, hdM⟩ := rx_y hM hz
    have hTm := es_t hdS
    have hTc := es_c hdS
    have hRc := es_3 hdS
    have hmc := es_mc hdS
    have hmM := (es_m hdS).fr hmc fS fA
    have pc := mc_p hTc
    have e4 := mm_4 hmM
    by_cases qe : (q : Int) < C 0 4 0
    · have b01 := (bO_01 C (q : Int)).1
      have step : ∀ F3 E3 : Int → Int → Int, frS m F2 F3 → frA m E2 E3 → ¬ (bO C (q : Int) 0 = 0 ∧ lcn C q = i) → kk [m, i, lcn C (q + 1), (q : Int) + 1] [] (L, R, F3, E3, N) c9 s9 := fun F3 E3 u v w => hkk (nn - 1) _ _ _ _ _ (by omega) ⟨q + 1, F3, E3, rfl, rfl, rfl, by omega, by omega, ldF_no hq w, fS.tr u, fA.tr v⟩
      have ret : ∀ F3 E3 : Int → Int → Int, frS m F2 F3 → frA m E2 E3 → bO C (q : Int) 0 = 0 → lcn C q = i → Q (q : Int) (L, R, F3, E3, N) := fun F3 E3 u v w x => by
        have e := ldF_at hq w x qe
        have := h1 (by rw [e]; omega) F3 E3 ((u _ _ (by omega)).trans f20) (hq2.tt (qO.f u v))
        rw [e] at this
        exact this
      rw [lcn_s] at step
      clear hkk h1 h0
      rcases b01 with z | z
      · rw [if_pos z] at step
        repeat' first
          | exact absurd hc (by decide)
          | with_reducible refine sM_findsOrder hTm hTc hRc hmM hW hmc ?_ qe (fun F3 E3 u v w => ?_)
          | simp (disch := omega) only [ub_X10_led_48, zLg, zRf, zFq, zEl, zNz, zUf, zUe, zUr, zCe, zSn, gd_0, gd_1, gd_2, gd_3, gd_4, gd_5, gd_6, gd_7, gd_8, gd_9, gd_10, gd_11, gd_12, gd_13, gd_14, gd_15, gd_16, gd_17, gd_18, gd_19, se_0, se_1, se_2, se_3, se_4, se_5, se_6, se_7, se_8, se_9, se_10, se_11, se_12, se_13, se_14, se_15, se_16, se_17, se_18, se_19, e_const, e_load, e_store, e_iinc, e_dup, e_dup2, e_pop, e_iadd, e_isub, e_imul, e_ladd, e_lsub, e_lmul, e_iaddw, e_isubw, e_imulw, e_laddw, e_lsubw, e_lmulw, e_iand, e_ior, e_ishl, e_ishr, e_iushr, e_lcmp, e_imax, e_imin, e_idiv, e_irem, e_ldiv, e_lrem, e_i2l, e_i2b, e_l2i, e_i2c, e_getF, e_getR, e_putF, e_putR, e_putz, e_ald, e_aldR, e_ast, e_astb, e_astz, e_asta, e_len, e_acopy, e_new, e_newa, e_mna, e_this, e_room, e_call0, e_callv0, e_call1, e_callv1, e_inv1, e_invv1, e_call2, e_callv2, e_inv2, e_invv2, e_call3, e_callv3, e_inv3, e_invv3, e_call4, e_callv4, e_inv4, e_invv4, e_call5, e_callv5, e_inv5, e_invv5, e_call6, e_callv6, e_inv6, e_invv6, e_call7, e_callv7, e_inv7, e_invv7, e_call8, e_callv8, e_inv8, e_invv8, e_ret, e_retz, e_retc, e_retb, e_retv, e_skip, e_sco, e_tlen, e_tat, e_iz_eq0, e_iz_eq1, e_iz_ne0, e_iz_ne1, add0, sc_d, sc_t, inI_e, inL_e, up_eq, true_or, or_true, or_false, false_or, and_true, true_and, not_false_eq_true, Int.reduceAdd, Int.reduceSub, Int.reduceMul, Int.reduceNeg, hRc, e4, z]
          | with_reducible first | refine izl_lt (fun hc => ?_) (fun hc => ?_) | refine izl_ge (fun hc => ?_) (fun hc => ?_) | refine izl_eq (fun hc => ?_) (fun hc => ?_) | refine ic_ge (fun hc => ?_) (fun hc => ?_) | refine ic_lt (fun hc => ?_) (fun hc => ?_) | refine ic_ne (fun hc => ?_) (fun hc => ?_) | refine ic_eq (fun hc => ?_) (fun hc => ?_) | refine ic_le (fun hc => ?_) (fun hc => ?_) | refine ic_gt (fun hc => ?_) (fun hc => ?_) | refine iz_eq (fun hc => ?_) (fun hc => ?_) | refine iz_ne (fun hc => ?_) (fun hc => ?_) | refine iz_lt (fun hc => ?_) (fun hc => ?_) | refine iz_ge (fun hc => ?_) (fun hc => ?_) | refine iz_gt (fun hc => ?_) (fun hc => ?_) | refine iz_le (fun hc => ?_) (fun hc => ?_) | refine iz_nu (fun hc => ?_) (fun hc => ?_) | refine iz_nn (fun hc => ?_) (fun hc => ?_)
          | omega
          | (exfalso; omega)
        all_goals first
          | exact ret _ _ (by assumption) (by assumption) z (by omega)
          | exact step _ _ (by assumption) (by assumption) (fun y => by omega)
      · rw [if_neg (by omega), Int.add_zero] at step
        repeat' first
          | exact absurd hc (by decide)
          | with_reducible refine sM_findsOrder hTm hTc hRc hmM hW hmc ?_ qe (fun F3 E3 u v w => ?_)
          | simp (disch := omega) only [ub_X10_led_48, zLg, zRf, zFq, zEl, zNz, zUf, zUe, zUr, zCe, zSn, gd_0, gd_1, gd_2, gd_3, gd_4, gd_5, gd_6, gd_7, gd_8, gd_9, gd_10, gd_11, gd_12, gd_13, gd_14, gd_15, gd_16, gd_17, gd_18, gd_19, se_0, se_1, se_2, se_3, se_4, se_5, se_6, se_7, se_8, se_9, se_10, se_11, se_12, se_13, se_14, se_15, se_16, se_17, se_18, se_19, e_const, e_load, e_store, e_iinc, e_dup, e_dup2, e_pop, e_iadd, e_isub, e_imul, e_ladd, e_lsub, e_lmul, e_iaddw, e_isubw, e_imulw, e_laddw, e_lsubw, e_lmulw, e_iand, e_ior, e_ishl, e_ishr, e_iushr, e_lcmp, e_imax, e_imin, e_idiv, e_irem, e_ldiv, e_lrem, e_i2l, e_i2b, e_l2i, e_i2c, e_getF, e_getR, e_putF, e_putR, e_putz, e_ald, e_aldR, e_ast, e_astb, e_astz, e_asta, e_len, e_acopy, e_new, e_newa, e_mna, e_this, e_room, e_call0, e_callv0, e_call1, e_callv1, e_inv1, e_invv1, e_call2, e_callv2, e_inv2, e_invv2, e_call3, e_callv3, e_inv3, e_invv3, e_call4, e_callv4, e_inv4, e_invv4, e_call5, e_callv5, e_inv5, e_invv5, e_call6, e_callv6, e_inv6, e_invv6, e_call7, e_callv7, e_inv7, e_invv7, e_call8, e_callv8, e_inv8, e_invv8, e_ret, e_retz, e_retc, e_retb, e_retv, e_skip, e_sco, e_tlen, e_tat, e_iz_eq0, e_iz_eq1, e_iz_ne0, e_iz_ne1, add0, sc_d, sc_t, inI_e, inL_e, up_eq, true_or, or_true, or_false, false_or, and_true, true_and, not_false_eq_true, Int.reduceAdd, Int.reduceSub, Int.reduceMul, Int.reduceNeg, hRc, e4, z]
          | with_reducible first | refine izl_lt (fun hc => ?_) (fun hc => ?_) | refine izl_ge (fun hc => ?_) (fun hc => ?_) | refine izl_eq (fun hc => ?_) (fun hc => ?_) | refine ic_ge (fun hc => ?_) (fun hc => ?_) | refine ic_lt (fun hc => ?_) (fun hc => ?_) | refine ic_ne (fun hc => ?_) (fun hc => ?_) | refine ic_eq (fun hc => ?_) (fun hc => ?_) | refine ic_le (fun hc => ?_) (fun hc => ?_) | refine ic_gt (fun hc => ?_) (fun hc => ?_) | refine iz_eq (fun hc => ?_) (fun hc => ?_) | refine iz_ne (fun hc => ?_) (fun hc => ?_) | refine iz_lt (fun hc => ?_) (fun hc => ?_) | refine iz_ge (fun hc => ?_) (fun hc => ?_) | refine iz_gt (fun hc => ?_) (fun hc => ?_) | refine iz_le (fun hc => ?_) (fun hc => ?_) | refine iz_nu (fun hc => ?_) (fun hc => ?_) | refine iz_nn (fun hc => ?_) (fun hc => ?_)
          | omega
          | (exfalso; omega)
        all_goals exact step _ _ (by assumption) (by assumption) (fun y => by omega)
    · have eq : (C 0 4 0).toNat = q := by omega
      have ok := h0 (by unfold r_led; rw [eq]; exact hq) (up F2 m 0 1) E2 up_eq (hq2.tt qO.s)
      clear hkk h1 h0
      repeat' first
        | exact absurd hc (by decide)
        | simp (disch := omega) only [ub_X10_led_54, zLg, zRf, zFq, zEl, zNz, zUf, zUe, zUr, zCe, zSn, gd_0, gd_1, gd_2, gd_3, gd_4, gd_5, gd_6, gd_7, gd_8, gd_9, gd_10, gd_11, gd_12, gd_13, gd_14, gd_15, gd_16, gd_17, gd_18, gd_19, se_0, se_1, se_2, se_3, se_4, se_5, se_6, se_7, se_8, se_9, se_10, se_11, se_12, se_13, se_14, se_15, se_16, se_17, se_18, se_19, e_const, e_load, e_store, e_iinc, e_dup, e_dup2, e_pop, e_iadd, e_isub, e_imul, e_ladd, e_lsub, e_lmul, e_iaddw, e_isubw, e_imulw, e_laddw, e_lsubw, e_lmulw, e_iand, e_ior, e_ishl, e_ishr, e_iushr, e_lcmp, e_imax, e_imin, e_idiv, e_irem, e_ldiv, e_lrem, e_i2l, e_i2b, e_l2i, e_i2c, e_getF, e_getR, e_putF, e_putR, e_putz, e_ald, e_aldR, e_ast, e_astb, e_astz, e_asta, e_len, e_acopy, e_new, e_newa, e_mna, e_this, e_room, e_call0, e_callv0, e_call1, e_callv1, e_inv1, e_invv1, e_call2, e_callv2, e_inv2, e_invv2, e_call3, e_callv3, e_inv3, e_invv3, e_call4, e_callv4, e_inv4, e_invv4, e_call5, e_callv5, e_inv5, e_invv5, e_call6, e_callv6, e_inv6, e_invv6, e_call7, e_callv7, e_inv7, e_invv7, e_call8, e_callv8, e_inv8, e_invv8, e_ret, e_retz, e_retc, e_retb, e_retv, e_skip, e_sco, e_tlen, e_tat, e_iz_eq0, e_iz_eq1, e_iz_ne0, e_iz_ne1, add0, sc_d, sc_t, inI_e, inL_e, up_eq, true_or, or_true, or_false, false_or, and_true, true_and, not_false_eq_true, Int.reduceAdd, Int.reduceSub, Int.reduceMul, Int.reduceNeg, hRc, e4]
        | with_reducible first | refine izl_lt (fun hc => ?_) (fun hc => ?_) | refine izl_ge (fun hc => ?_) (fun hc => ?_) | refine izl_eq (fun hc => ?_) (fun hc => ?_) | refine ic_ge (fun hc => ?_) (fun hc => ?_) | refine ic_lt (fun hc => ?_) (fun hc => ?_) | refine ic_ne (fun hc => ?_) (fun hc => ?_) | refine ic_eq (fun hc => ?_) (fun hc => ?_) | refine ic_le (fun hc => ?_) (fun hc => ?_) | refine ic_gt (fun hc => ?_) (fun hc => ?_) | refine iz_eq (fun hc => ?_) (fun hc => ?_) | refine iz_ne (fun hc => ?_) (fun hc => ?_) | refine iz_lt (fun hc => ?_) (fun hc => ?_) | refine iz_ge (fun hc => ?_) (fun hc => ?_) | refine iz_gt (fun hc => ?_) (fun hc => ?_) | refine iz_le (fun hc => ?_) (fun hc => ?_) | refine iz_nu (fun hc => ?_) (fun hc => ?_) | refine iz_nn (fun hc => ?_) (fun hc => ?_)
        | omega
        | (exfalso; omega)
      all_goals exact ok
  · have hr := rx_n hM hz
    have c4 : C 0 4 0 = 0 := by
      rcases sw_c hs with y | y
      · exact y.1.2.2.2.2
      · exact absurd y hz
    have ok := h0 (by unfold r_led; rw [c4]; rfl) (up F2 m 0 1) E2 up_eq (hq2.tt qO.s)
    clear hkk h1 h0
    repeat' first
      | exact absurd hc (by decide)
      | simp (disch := omega) only [ub_X10_led_54, zLg, zRf, zFq, zEl, zNz, zUf, zUe, zUr, zCe, zSn, gd_0, gd_1, gd_2, gd_3, gd_4, gd_5, gd_6, gd_7, gd_8, gd_9, gd_10, gd_11, gd_12, gd_13, gd_14, gd_15, gd_16, gd_17, gd_18, gd_19, se_0, se_1, se_2, se_3, se_4, se_5, se_6, se_7, se_8, se_9, se_10, se_11, se_12, se_13, se_14, se_15, se_16, se_17, se_18, se_19, e_const, e_load, e_store, e_iinc, e_dup, e_dup2, e_pop, e_iadd, e_isub, e_imul, e_ladd, e_lsub, e_lmul, e_iaddw, e_isubw, e_imulw, e_laddw, e_lsubw, e_lmulw, e_iand, e_ior, e_ishl, e_ishr, e_iushr, e_lcmp, e_imax, e_imin, e_idiv, e_irem, e_ldiv, e_lrem, e_i2l, e_i2b, e_l2i, e_i2c, e_getF, e_getR, e_putF, e_putR, e_putz, e_ald, e_aldR, e_ast, e_astb, e_astz, e_asta, e_len, e_acopy, e_new, e_newa, e_mna, e_this, e_room, e_call0, e_callv0, e_call1, e_callv1, e_inv1, e_invv1, e_call2, e_callv2, e_inv2, e_invv2, e_call3, e_callv3, e_inv3, e_invv3, e_call4, e_callv4, e_inv4, e_invv4, e_call5, e_callv5, e_inv5, e_invv5, e_call6, e_callv6, e_inv6, e_invv6, e_call7, e_callv7, e_inv7, e_invv7, e_call8, e_callv8, e_inv8, e_invv8, e_ret, e_retz, e_retc, e_retb, e_retv, e_skip, e_sco, e_tlen, e_tat, e_iz_eq0, e_iz_eq1, e_iz_ne0, e_iz_ne1, add0, sc_d, sc_t, inI_e, inL_e, up_eq, true_or, or_true, or_false, false_or, and_true, true_and, not_false_eq_true, Int.reduceAdd, Int.reduceSub, Int.reduceMul, Int.reduceNeg, hr]
      | with_reducible first | refine izl_lt (fun hc => ?_) (fun hc => ?_) | refine izl_ge (fun hc => ?_) (fun hc => ?_) | refine izl_eq (fun hc => ?_) (fun hc => ?_) | refine ic_ge (fun hc => ?_) (fun hc => ?_) | refine ic_lt (fun hc => ?_) (fun hc => ?_) | refine ic_ne (fun hc => ?_) (fun hc => ?_) | refine ic_eq (fun hc => ?_) (fun hc => ?_) | refine ic_le (fun hc => ?_) (fun hc => ?_) | refine ic_gt (fun hc => ?_) (fun hc => ?_) | refine iz_eq (fun hc => ?_) (fun hc => ?_) | refine iz_ne (fun hc => ?_) (fun hc => ?_) | refine iz_lt (fun hc => ?_) (fun hc => ?_) | refine iz_ge (fun hc => ?_) (fun hc => ?_) | refine iz_gt (fun hc => ?_) (fun hc => ?_) | refine iz_le (fun hc => ?_) (fun hc => ?_) | refine iz_nu (fun hc => ?_) (fun hc => ?_) | refine iz_nn (fun hc => ?_) (fun hc => ?_)
      | omega
      | (exfalso; omega)
    all_goals exact ok
end LED

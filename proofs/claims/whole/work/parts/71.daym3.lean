/-! ===== the reference's day: the hour whole ===== -/
/-- all from k on that begin now have begun -/
def bgA (C : Cy) (k n : Int) (D : Int → Int → Int) : Int → Int → Int := fun w j => if w = 3 ∧ k ≤ j ∧ j < n ∧ D 3 j = 0 ∧ C 5 (D 0 j) 5 = D 10 0 then 1 else D w j
theorem bgA_ne {C : Cy} {k n : Int} {D : Int → Int → Int} {w j : Int} (h : w ≠ 3 ∨ j < k) : bgA C k n D w j = D w j := if_neg (by omega)
theorem bgA_e {C : Cy} {k n : Int} {D : Int → Int → Int} (h : n ≤ k) : bgA C k n D = D := by
  funext w j
  exact if_neg (by omega)
theorem bgA_up {C : Cy} {k n : Int} {D : Int → Int → Int} {w i v : Int} (h : i < k) (h0 : w < 10) : bgA C k n (up D w i v) = up (bgA C k n D) w i v := by
  funext w' j
  by_cases z : j = i
  · rw [bgA_ne (by omega)]
    by_cases z2 : w' = w
    · rw [z, z2, up_eq, up_eq]
    · rw [up_ne (by omega), up_ne (by omega), bgA_ne (by omega)]
  · rw [up_ne (by omega)]
    unfold bgA
    simp (disch := omega) only [up_ne]
theorem bgA_s {C : Cy} {k n : Int} {D : Int → Int → Int} (h : k < n) : bgA C k n D = bgA C (k + 1) n (bgD C D k) := by
  funext w j
  unfold bgD
  by_cases z : j = k
  · subst z
    rw [bgA_ne (k := j + 1) (w := w) (j := j) (by omega)]
    by_cases z3 : w = 3
    · subst z3
      unfold bgA
      by_cases z4 : D 3 j = 0 ∧ C 5 (D 0 j) 5 = D 10 0
      · rw [if_pos ⟨rfl, by omega, h, z4⟩, if_pos z4, up_eq]
      · rw [if_neg (fun q => z4 q.2.2.2), if_neg z4]
    · rw [bgA_ne (by omega)]
      split
      · rw [up_ne (by omega)]
      · rfl
  · have e : (k ≤ j ↔ k + 1 ≤ j) := by omega
    split
    · unfold bgA
      simp (disch := omega) only [up_ne, e]
    · unfold bgA
      simp only [e]
theorem itbg {C : Cy} {n : Int} {D : Int → Int → Int} : ∀ i : Nat, (i : Int) ≤ n → bgA C i n (itD (bgD C) D i) = bgA C 0 n D := by
  intro i
  induction i with
  | zero => intro _; rfl
  | succ i ih =>
    intro h
    rw [← ih (by omega), bgA_s (k := (i : Int)) (by omega)]
    rfl
theorem onF_eq {D D' : Int → Int → Int} (h : ∀ j : Int, D' 6 j = D 6 j) (c : Int) : ∀ n : Nat, onF D' c n = onF D c n := by
  intro n
  induction n with
  | zero => rfl
  | succ n ih =>
    unfold onF
    rw [ih, h]
theorem ctF_eq {C : Cy} {D D' : Int → Int → Int} {l : Int} (h : ∀ j : Int, D' 6 j = D 6 j) (h0 : D' 0 l = D 0 l) (h1 : D' 1 l = D 1 l) (h10 : D' 10 1 = D 10 1) : ∀ n : Nat, ctF C D' l n = ctF C D l n := by
  intro n
  induction n with
  | zero => rfl
  | succ n ih =>
    unfold ctF
    rw [ih, h0, h1, h10, onF_eq h]
theorem drD_bgA {C : Cy} {k n i : Int} {D : Int → Int → Int} (h : i < k) : drD C (bgA C k n D) i = bgA C k n (drD C D i) := by
  have e3 : bgA C k n D 3 i = D 3 i := bgA_ne (by omega)
  have e2 : bgA C k n D 2 i = D 2 i := bgA_ne (by omega)
  have eh : bgA C k n D 10 0 = D 10 0 := bgA_ne (by omega)
  have eg : gah C (bgA C k n D) i = gah C D i := gah_eq (bgA_ne (by omega)) (bgA_ne (by omega))
  have ep : plah C (bgA C k n D) i = plah C D i := plah_eq (bgA_ne (by omega)) (bgA_ne (by omega))
  have ec : ctF C (bgA C k n D) i (C 0 2 0).toNat = ctF C D i (C 0 2 0).toNat := ctF_eq (fun j => bgA_ne (by omega)) (bgA_ne (by omega)) (bgA_ne (by omega)) (bgA_ne (by omega)) _
  unfold drD
  rw [e3, e2, ep, ec]
  split
  · rfl
  · split
    · unfold arD
      rw [eg, eh]
      split
      · rw [bgA_up h (by omega), bgA_up h (by omega)]
      · rw [bgA_up h (by omega), bgA_up h (by omega)]
    · split
      · rfl
      · rw [bgA_up h (by omega), bgA_up h (by omega), bgA_up h (by omega)]
theorem itso {C : Cy} {n : Int} {D : Int → Int → Int} : ∀ i : Nat, (i : Int) ≤ n → itD (drD C) (bgA C 0 n D) i = bgA C i n (itD (soD C) D i) := by
  intro i
  induction i with
  | zero => intro _; rfl
  | succ i ih =>
    intro h
    show drD C (itD (drD C) (bgA C 0 n D) i) i = _
    rw [ih (by omega), bgA_s (by omega), drD_bgA (by omega)]
    rfl
theorem its {C : Cy} {D : Int → Int → Int} (n : Nat) : itD (drD C) (itD (bgD C) D n) n = itD (soD C) D n := by
  have a := itbg (C := C) (n := (n : Int)) (D := D) n (by omega)
  have b := itso (C := C) (n := (n : Int)) (D := D) n (by omega)
  rw [bgA_e (k := (n : Int)) (by omega)] at a b
  rw [← b, ← a]
section DAYM3
variable {L : Int → Int} {R F E : Int → Int → Int} {N : Nat} {Q : xQ} {m c l g : Int} {C : Cy} {D : Int → Int → Int}
theorem sM_passes (hS : dmS m c C L R F E) (hX : dmM m C D F E) (hw : dWf C D) {K : Int} (hK : dK D K) (hK2 : K ≤ 400000) (hh : D 10 0 < 120) (hQ : ∀ E' : Int → Int → Int, dmM m C (hrD C D) F E' → frW m E E' → Q 0 (L, R, F, E', N)) : T_X10_passes [m] (L, R, F, E, N) Q := by
  have hT := es_t hS
  have hTc := es_c hS
  have hRc := es_3 hS
  have hW := es_w hS
  have pm := mt_p hT
  have pc := mc_p hTc
  have b1 := cw_1 hW
  have b4 := cw_4 hW
  have hn := hw.2.1
  have e38 := ed_38 hX
  have m17 := mm_1 (es_m hS)
  have hh0 := hw.1
  obtain ⟨A1, A2, A3, A4⟩ := it_only (f := mvD C) (fun D l h u v => mvD_ok hW h u v) hw hK (D 10 1).toNat (by omega)
  obtain ⟨B1, B2, B3, B4⟩ := it_op hW A1 A2 (C 0 1 0).toNat (by omega)
  obtain ⟨C1, C2, C3, C4⟩ := it_only (f := bgD C) (fun D l h u v => bgD_ok h u v) B1 B2 (D 10 1).toNat (by rw [B3, A3]; omega)
  obtain ⟨D1, D2, D3, D4⟩ := it_only (f := drD C) (fun D l h u v => drD_ok hW h u v) C1 C2 (D 10 1).toNat (by rw [C3, B3, A3]; omega)
  have e3 := its (C := C) (D := itD (opD C) (itD (mvD C) D (D 10 1).toNat) (C 0 1 0).toNat) (D 10 1).toNat
  have ehr : hrD C D = up (itD wtD (itD (soD C) (itD (opD C) (itD (mvD C) D (D 10 1).toNat) (C 0 1 0).toNat) (D 10 1).toNat) (D 10 1).toNat) 10 0 (D 10 0 + 1) := rfl
  rw [← e3] at ehr
  simp (disch := omega) only [t_X10_passes, ue_X10_passes, zLg, zRf, zFq, zEl, zNz, zUf, zUe, zUr, zCe, zSn, gd_0, gd_1, gd_2, gd_3, gd_4, gd_5, gd_6, gd_7, gd_8, gd_9, gd_10, gd_11, gd_12, gd_13, gd_14, gd_15, gd_16, gd_17, gd_18, gd_19, se_0, se_1, se_2, se_3, se_4, se_5, se_6, se_7, se_8, se_9, se_10, se_11, se_12, se_13, se_14, se_15, se_16, se_17, se_18, se_19, e_const, e_load, e_store, e_iinc, e_dup, e_dup2, e_pop, e_iadd, e_isub, e_imul, e_ladd, e_lsub, e_lmul, e_iaddw, e_isubw, e_imulw, e_laddw, e_lsubw, e_lmulw, e_iand, e_ior, e_ishl, e_ishr, e_iushr, e_lcmp, e_imax, e_imin, e_idiv, e_irem, e_ldiv, e_lrem, e_i2l, e_i2b, e_l2i, e_i2c, e_getF, e_getR, e_putF, e_putR, e_putz, e_ald, e_aldR, e_ast, e_astb, e_astz, e_asta, e_len, e_acopy, e_new, e_newa, e_mna, e_this, e_room, e_call0, e_callv0, e_call1, e_callv1, e_inv1, e_invv1, e_call2, e_callv2, e_inv2, e_invv2, e_call3, e_callv3, e_inv3, e_invv3, e_call4, e_callv4, e_inv4, e_invv4, e_call5, e_callv5, e_inv5, e_invv5, e_call6, e_callv6, e_inv6, e_invv6, e_call7, e_callv7, e_inv7, e_invv7, e_call8, e_callv8, e_inv8, e_invv8, e_ret, e_retz, e_retc, e_retb, e_retv, e_skip, e_sco, e_tlen, e_tat, e_iz_eq0, e_iz_eq1, e_iz_ne0, e_iz_ne1, add0, sc_d, sc_t, inI_e, inL_e, up_eq, true_or, or_true, or_false, false_or, and_true, true_and, not_false_eq_true, Int.reduceAdd, Int.reduceSub, Int.reduceMul, Int.reduceNeg]
  -- phase 4
  have ph4 : ∀ (E4 : Int → Int → Int) (c s : Nat), dmM m C (itD (drD C) (itD (bgD C) (itD (opD C) (itD (mvD C) D (D 10 1).toNat) (C 0 1 0).toNat) (D 10 1).toNat) (D 10 1).toNat) F E4 → frW m E E4 → L_X10_passes_132 Q [m, 0] [] (L, R, F, E4, N) c s := by
    intro E4 c s hX4 hf4
    have e10 : ∀ j : Int, itD (drD C) (itD (bgD C) (itD (opD C) (itD (mvD C) D (D 10 1).toNat) (C 0 1 0).toNat) (D 10 1).toNat) (D 10 1).toNat 10 j = D 10 j := fun j => by rw [D3, C3, B3, A3]
    generalize itD (drD C) (itD (bgD C) (itD (opD C) (itD (mvD C) D (D 10 1).toNat) (C 0 1 0).toNat) (D 10 1).toNat) (D 10 1).toNat = D9 at *
    unfold L_X10_passes_132
    refine lpw (fun n lo st h c s => ∃ (i : Int) (E' : Int → Int → Int), lo = [m, i] ∧ st = [] ∧ h = (L, R, F, E', N) ∧ 0 ≤ i ∧ i ≤ D 10 1 ∧ (n : Int) = D 10 1 - i ∧ frW m E E' ∧ dmM m C (itD wtD D9 i.toNat) F E') ?_ (n := (D 10 1).toNat) ⟨0, E4, rfl, rfl, rfl, by omega, by omega, by omega, hf4, hX4⟩
    rintro n k hk lo st h c s ⟨i, E', rfl, rfl, rfl, hi, hi2, hn1, hf, hXi⟩
    obtain ⟨w1, w2, w3⟩ := it_wt D1 D2 i.toNat (by rw [e10]; omega)
    have e10i : ∀ j : Int, itD wtD D9 i.toNat 10 j = D 10 j := fun j => (w3 10 j (by omega)).trans (e10 j)
    by_cases hlt : i < D 10 1
    · have eit := itD_s (f := wtD) (D := D9) hi
      have e101 := e10i 1
      have r3 : E' (m + 6) (9 * i + 2) = itD wtD D9 i.toNat 3 i := ed_r hXi 2 i (by omega) (by omega) hi (by omega)
      have r5 : E' (m + 6) (9 * i + 4) = itD wtD D9 i.toNat 5 i := ed_r hXi 4 i (by omega) (by omega) hi (by omega)
      have k5 := w2.2 i hi (by omega)
      have ew : wtD (itD wtD D9 i.toNat) i = if itD wtD D9 i.toNat 3 i = 1 ∨ itD wtD D9 i.toNat 3 i = 3 then up (itD wtD D9 i.toNat) 5 i (itD wtD D9 i.toNat 5 i + 1) else itD wtD D9 i.toNat := rfl
      generalize itD wtD D9 i.toNat = Di at *
      have hup : ∀ v : Int, v = (if Di 3 i = 1 ∨ Di 3 i = 3 then Di 5 i + 1 else Di 5 i) → k [m, i + 1] [] (L, R, F, up E' (m + 6) (9 * i + 4) v, N) c s := fun v hv => by
        refine hk (n - 1) _ _ _ _ _ (by omega) ⟨i + 1, up E' (m + 6) (9 * i + 4) v, rfl, rfl, rfl, by omega, by omega, by omega, hf.tr frW.up, ?_⟩
        have eD : itD wtD D9 (i + 1).toNat = up Di 5 i v := by
          rw [eit, ew, hv]
          split
          · rfl
          · funext w j
            by_cases z : w = 5 ∧ j = i
            · rw [z.1, z.2, up_eq]
            · rw [up_ne (by omega)]
        rw [eD]
        exact dm_up hXi 4 5 i v rfl (by omega) (by omega) hi (by omega)
      repeat' first
        | exact absurd hc (by decide)
        | simp (disch := omega) only [ub_X10_passes_187, ub_X10_passes_182, ub_X10_passes_103, ue_X10_passes, t_X10_passes, zLg, zRf, zFq, zEl, zNz, zUf, zUe, zUr, zCe, zSn, gd_0, gd_1, gd_2, gd_3, gd_4, gd_5, gd_6, gd_7, gd_8, gd_9, gd_10, gd_11, gd_12, gd_13, gd_14, gd_15, gd_16, gd_17, gd_18, gd_19, se_0, se_1, se_2, se_3, se_4, se_5, se_6, se_7, se_8, se_9, se_10, se_11, se_12, se_13, se_14, se_15, se_16, se_17, se_18, se_19, e_const, e_load, e_store, e_iinc, e_dup, e_dup2, e_pop, e_iadd, e_isub, e_imul, e_ladd, e_lsub, e_lmul, e_iaddw, e_isubw, e_imulw, e_laddw, e_lsubw, e_lmulw, e_iand, e_ior, e_ishl, e_ishr, e_iushr, e_lcmp, e_imax, e_imin, e_idiv, e_irem, e_ldiv, e_lrem, e_i2l, e_i2b, e_l2i, e_i2c, e_getF, e_getR, e_putF, e_putR, e_putz, e_ald, e_aldR, e_ast, e_astb, e_astz, e_asta, e_len, e_acopy, e_new, e_newa, e_mna, e_this, e_room, e_call0, e_callv0, e_call1, e_callv1, e_inv1, e_invv1, e_call2, e_callv2, e_inv2, e_invv2, e_call3, e_callv3, e_inv3, e_invv3, e_call4, e_callv4, e_inv4, e_invv4, e_call5, e_callv5, e_inv5, e_invv5, e_call6, e_callv6, e_inv6, e_invv6, e_call7, e_callv7, e_inv7, e_invv7, e_call8, e_callv8, e_inv8, e_invv8, e_ret, e_retz, e_retc, e_retb, e_retv, e_skip, e_sco, e_tlen, e_tat, e_iz_eq0, e_iz_eq1, e_iz_ne0, e_iz_ne1, add0, sc_d, sc_t, inI_e, inL_e, up_eq, true_or, or_true, or_false, false_or, and_true, true_and, not_false_eq_true, Int.reduceAdd, Int.reduceSub, Int.reduceMul, Int.reduceNeg, e38, r3, r5, Int.add_zero, mt_32 hT, mt_l6 hT]
        | with_reducible first | refine izl_lt (fun hc => ?_) (fun hc => ?_) | refine izl_ge (fun hc => ?_) (fun hc => ?_) | refine izl_eq (fun hc => ?_) (fun hc => ?_) | refine ic_ge (fun hc => ?_) (fun hc => ?_) | refine ic_lt (fun hc => ?_) (fun hc => ?_) | refine ic_ne (fun hc => ?_) (fun hc => ?_) | refine ic_eq (fun hc => ?_) (fun hc => ?_) | refine ic_le (fun hc => ?_) (fun hc => ?_) | refine ic_gt (fun hc => ?_) (fun hc => ?_) | refine iz_eq (fun hc => ?_) (fun hc => ?_) | refine iz_ne (fun hc => ?_) (fun hc => ?_) | refine iz_lt (fun hc => ?_) (fun hc => ?_) | refine iz_ge (fun hc => ?_) (fun hc => ?_) | refine iz_gt (fun hc => ?_) (fun hc => ?_) | refine iz_le (fun hc => ?_) (fun hc => ?_) | refine iz_nu (fun hc => ?_) (fun hc => ?_) | refine iz_nn (fun hc => ?_) (fun hc => ?_)
        | omega
        | (exfalso; omega)
      all_goals first
        | exact hup _ (by rw [if_pos (by omega)])
        | exact hup _ (by rw [if_neg (by omega)])
    · have hie : i = D 10 1 := by omega
      have e100 : E' (m + 6) 670 = D 10 0 := (ed_h hXi).trans (e10i 0)
      rw [hie] at hXi
      have e101 : itD wtD D9 (D 10 1).toNat 10 1 = D 10 1 := by rw [← hie]; rw [e10i 1, hie]
      repeat' first
        | exact absurd hc (by decide)
        | simp (disch := omega) only [ub_X10_passes_187, ub_X10_passes_182, ub_X10_passes_103, ue_X10_passes, t_X10_passes, zLg, zRf, zFq, zEl, zNz, zUf, zUe, zUr, zCe, zSn, gd_0, gd_1, gd_2, gd_3, gd_4, gd_5, gd_6, gd_7, gd_8, gd_9, gd_10, gd_11, gd_12, gd_13, gd_14, gd_15, gd_16, gd_17, gd_18, gd_19, se_0, se_1, se_2, se_3, se_4, se_5, se_6, se_7, se_8, se_9, se_10, se_11, se_12, se_13, se_14, se_15, se_16, se_17, se_18, se_19, e_const, e_load, e_store, e_iinc, e_dup, e_dup2, e_pop, e_iadd, e_isub, e_imul, e_ladd, e_lsub, e_lmul, e_iaddw, e_isubw, e_imulw, e_laddw, e_lsubw, e_lmulw, e_iand, e_ior, e_ishl, e_ishr, e_iushr, e_lcmp, e_imax, e_imin, e_idiv, e_irem, e_ldiv, e_lrem, e_i2l, e_i2b, e_l2i, e_i2c, e_getF, e_getR, e_putF, e_putR, e_putz, e_ald, e_aldR, e_ast, e_astb, e_astz, e_asta, e_len, e_acopy, e_new, e_newa, e_mna, e_this, e_room, e_call0, e_callv0, e_call1, e_callv1, e_inv1, e_invv1, e_call2, e_callv2, e_inv2, e_invv2, e_call3, e_callv3, e_inv3, e_invv3, e_call4, e_callv4, e_inv4, e_invv4, e_call5, e_callv5, e_inv5, e_invv5, e_call6, e_callv6, e_inv6, e_invv6, e_call7, e_callv7, e_inv7, e_invv7, e_call8, e_callv8, e_inv8, e_invv8, e_ret, e_retz, e_retc, e_retb, e_retv, e_skip, e_sco, e_tlen, e_tat, e_iz_eq0, e_iz_eq1, e_iz_ne0, e_iz_ne1, add0, sc_d, sc_t, inI_e, inL_e, up_eq, true_or, or_true, or_false, false_or, and_true, true_and, not_false_eq_true, Int.reduceAdd, Int.reduceSub, Int.reduceMul, Int.reduceNeg, e38, e100, mt_32 hT, mt_l6 hT]
        | with_reducible first | refine izl_lt (fun hc => ?_) (fun hc => ?_) | refine izl_ge (fun hc => ?_) (fun hc => ?_) | refine izl_eq (fun hc => ?_) (fun hc => ?_) | refine ic_ge (fun hc => ?_) (fun hc => ?_) | refine ic_lt (fun hc => ?_) (fun hc => ?_) | refine ic_ne (fun hc => ?_) (fun hc => ?_) | refine ic_eq (fun hc => ?_) (fun hc => ?_) | refine ic_le (fun hc => ?_) (fun hc => ?_) | refine ic_gt (fun hc => ?_) (fun hc => ?_) | refine iz_eq (fun hc => ?_) (fun hc => ?_) | refine iz_ne (fun hc => ?_) (fun hc => ?_) | refine iz_lt (fun hc => ?_) (fun hc => ?_) | refine iz_ge (fun hc => ?_) (fun hc => ?_) | refine iz_gt (fun hc => ?_) (fun hc => ?_) | refine iz_le (fun hc => ?_) (fun hc => ?_) | refine iz_nu (fun hc => ?_) (fun hc => ?_) | refine iz_nn (fun hc => ?_) (fun hc => ?_)
        | omega
        | (exfalso; omega)
      refine hQ (up E' (m + 6) 670 (D 10 0 + 1)) ?_ (hf.tr frW.up)
      rw [ehr]
      refine ⟨by rw [up_ne (by omega)]; exact ed_38 hXi, by rw [up_eq, up_eq], fun f q u v x z => ?_, fun q u v => ?_, fun q u v => ?_⟩
      · have cb := cl_b f
        rw [up_ne (by omega)] at z
        rw [up_ne (by omega), up_ne (by omega)]
        exact ed_r hXi f q u v x z
      · simp (disch := omega) only [up_ne]
        exact ed_t hXi q u v
      · rw [up_ne (by omega)] at v
        simp (disch := omega) only [up_ne]
        exact ed_o hXi q u v
  -- phase 3, driving
  have ph3 : ∀ (E3 : Int → Int → Int) (c s : Nat), dmM m C (itD (bgD C) (itD (opD C) (itD (mvD C) D (D 10 1).toNat) (C 0 1 0).toNat) (D 10 1).toNat) F E3 → frW m E E3 → L_X10_passes_111 Q [m, 0] [] (L, R, F, E3, N) c s := by
    intro E3 c s hX3 hf3
    have e10 : itD (bgD C) (itD (opD C) (itD (mvD C) D (D 10 1).toNat) (C 0 1 0).toNat) (D 10 1).toNat 10 1 = D 10 1 := by rw [C3, B3, A3]
    generalize itD (bgD C) (itD (opD C) (itD (mvD C) D (D 10 1).toNat) (C 0 1 0).toNat) (D 10 1).toNat = D8 at *
    unfold L_X10_passes_111
    refine lpw (fun n lo st h c s => ∃ (i : Int) (E' : Int → Int → Int), lo = [m, i] ∧ st = [] ∧ h = (L, R, F, E', N) ∧ 0 ≤ i ∧ i ≤ D 10 1 ∧ (n : Int) = D 10 1 - i ∧ frW m E E' ∧ dmM m C (itD (drD C) D8 i.toNat) F E') ?_ (n := (D 10 1).toNat) ⟨0, E3, rfl, rfl, rfl, by omega, by omega, by omega, hf3, hX3⟩
    rintro n k hk lo st h c s ⟨i, E', rfl, rfl, rfl, hi, hi2, hn1, hf, hXi⟩
    obtain ⟨w1, w2, w3, w4⟩ := it_only (f := drD C) (fun D l h u v => drD_ok hW h u v) C1 C2 i.toNat (by omega)
    have hS' := hS.fw hf
    by_cases hlt : i < D 10 1
    · have eit := itD_s (f := drD C) (D := D8) hi
      repeat' first
        | exact absurd hc (by decide)
        | simp (disch := omega) only [ub_X10_passes_187, ub_X10_passes_182, ub_X10_passes_103, ue_X10_passes, t_X10_passes, zLg, zRf, zFq, zEl, zNz, zUf, zUe, zUr, zCe, zSn, gd_0, gd_1, gd_2, gd_3, gd_4, gd_5, gd_6, gd_7, gd_8, gd_9, gd_10, gd_11, gd_12, gd_13, gd_14, gd_15, gd_16, gd_17, gd_18, gd_19, se_0, se_1, se_2, se_3, se_4, se_5, se_6, se_7, se_8, se_9, se_10, se_11, se_12, se_13, se_14, se_15, se_16, se_17, se_18, se_19, e_const, e_load, e_store, e_iinc, e_dup, e_dup2, e_pop, e_iadd, e_isub, e_imul, e_ladd, e_lsub, e_lmul, e_iaddw, e_isubw, e_imulw, e_laddw, e_lsubw, e_lmulw, e_iand, e_ior, e_ishl, e_ishr, e_iushr, e_lcmp, e_imax, e_imin, e_idiv, e_irem, e_ldiv, e_lrem, e_i2l, e_i2b, e_l2i, e_i2c, e_getF, e_getR, e_putF, e_putR, e_putz, e_ald, e_aldR, e_ast, e_astb, e_astz, e_asta, e_len, e_acopy, e_new, e_newa, e_mna, e_this, e_room, e_call0, e_callv0, e_call1, e_callv1, e_inv1, e_invv1, e_call2, e_callv2, e_inv2, e_invv2, e_call3, e_callv3, e_inv3, e_invv3, e_call4, e_callv4, e_inv4, e_invv4, e_call5, e_callv5, e_inv5, e_invv5, e_call6, e_callv6, e_inv6, e_invv6, e_call7, e_callv7, e_inv7, e_invv7, e_call8, e_callv8, e_inv8, e_invv8, e_ret, e_retz, e_retc, e_retb, e_retv, e_skip, e_sco, e_tlen, e_tat, e_iz_eq0, e_iz_eq1, e_iz_ne0, e_iz_ne1, add0, sc_d, sc_t, inI_e, inL_e, up_eq, true_or, or_true, or_false, false_or, and_true, true_and, not_false_eq_true, Int.reduceAdd, Int.reduceSub, Int.reduceMul, Int.reduceNeg, e38]
        | with_reducible first | refine izl_lt (fun hc => ?_) (fun hc => ?_) | refine izl_ge (fun hc => ?_) (fun hc => ?_) | refine izl_eq (fun hc => ?_) (fun hc => ?_) | refine ic_ge (fun hc => ?_) (fun hc => ?_) | refine ic_lt (fun hc => ?_) (fun hc => ?_) | refine ic_ne (fun hc => ?_) (fun hc => ?_) | refine ic_eq (fun hc => ?_) (fun hc => ?_) | refine ic_le (fun hc => ?_) (fun hc => ?_) | refine ic_gt (fun hc => ?_) (fun hc => ?_) | refine iz_eq (fun hc => ?_) (fun hc => ?_) | refine iz_ne (fun hc => ?_) (fun hc => ?_) | refine iz_lt (fun hc => ?_) (fun hc => ?_) | refine iz_ge (fun hc => ?_) (fun hc => ?_) | refine iz_gt (fun hc => ?_) (fun hc => ?_) | refine iz_le (fun hc => ?_) (fun hc => ?_) | refine iz_nu (fun hc => ?_) (fun hc => ?_) | refine iz_nn (fun hc => ?_) (fun hc => ?_)
        | omega
        | (exfalso; omega)
      refine sM_drives hS' hXi w1 hi (by rw [w3]; omega) fun E2 q1 q2 => ?_
      exact hk (n - 1) _ _ _ _ _ (by omega) ⟨i + 1, E2, rfl, rfl, rfl, by omega, by omega, by omega, hf.tr q2, by rw [eit]; exact q1⟩
    · have hie : i = D 10 1 := by omega
      rw [hie] at hXi
      repeat' first
        | exact absurd hc (by decide)
        | simp (disch := omega) only [zLg, zRf, zFq, zEl, zNz, zUf, zUe, zUr, zCe, zSn, gd_0, gd_1, gd_2, gd_3, gd_4, gd_5, gd_6, gd_7, gd_8, gd_9, gd_10, gd_11, gd_12, gd_13, gd_14, gd_15, gd_16, gd_17, gd_18, gd_19, se_0, se_1, se_2, se_3, se_4, se_5, se_6, se_7, se_8, se_9, se_10, se_11, se_12, se_13, se_14, se_15, se_16, se_17, se_18, se_19, e_const, e_load, e_store, e_iinc, e_dup, e_dup2, e_pop, e_iadd, e_isub, e_imul, e_ladd, e_lsub, e_lmul, e_iaddw, e_isubw, e_imulw, e_laddw, e_lsubw, e_lmulw, e_iand, e_ior, e_ishl, e_ishr, e_iushr, e_lcmp, e_imax, e_imin, e_idiv, e_irem, e_ldiv, e_lrem, e_i2l, e_i2b, e_l2i, e_i2c, e_getF, e_getR, e_putF, e_putR, e_putz, e_ald, e_aldR, e_ast, e_astb, e_astz, e_asta, e_len, e_acopy, e_new, e_newa, e_mna, e_this, e_room, e_call0, e_callv0, e_call1, e_callv1, e_inv1, e_invv1, e_call2, e_callv2, e_inv2, e_invv2, e_call3, e_callv3, e_inv3, e_invv3, e_call4, e_callv4, e_inv4, e_invv4, e_call5, e_callv5, e_inv5, e_invv5, e_call6, e_callv6, e_inv6, e_invv6, e_call7, e_callv7, e_inv7, e_invv7, e_call8, e_callv8, e_inv8, e_invv8, e_ret, e_retz, e_retc, e_retb, e_retv, e_skip, e_sco, e_tlen, e_tat, e_iz_eq0, e_iz_eq1, e_iz_ne0, e_iz_ne1, add0, sc_d, sc_t, inI_e, inL_e, up_eq, true_or, or_true, or_false, false_or, and_true, true_and, not_false_eq_true, Int.reduceAdd, Int.reduceSub, Int.reduceMul, Int.reduceNeg, e38]
        | with_reducible first | refine izl_lt (fun hc => ?_) (fun hc => ?_) | refine izl_ge (fun hc => ?_) (fun hc => ?_) | refine izl_eq (fun hc => ?_) (fun hc => ?_) | refine ic_ge (fun hc => ?_) (fun hc => ?_) | refine ic_lt (fun hc => ?_) (fun hc => ?_) | refine ic_ne (fun hc => ?_) (fun hc => ?_) | refine ic_eq (fun hc => ?_) (fun hc => ?_) | refine ic_le (fun hc => ?_) (fun hc => ?_) | refine ic_gt (fun hc => ?_) (fun hc => ?_) | refine iz_eq (fun hc => ?_) (fun hc => ?_) | refine iz_ne (fun hc => ?_) (fun hc => ?_) | refine iz_lt (fun hc => ?_) (fun hc => ?_) | refine iz_ge (fun hc => ?_) (fun hc => ?_) | refine iz_gt (fun hc => ?_) (fun hc => ?_) | refine iz_le (fun hc => ?_) (fun hc => ?_) | refine iz_nu (fun hc => ?_) (fun hc => ?_) | refine iz_nn (fun hc => ?_) (fun hc => ?_)
        | omega
        | (exfalso; omega)
      exact ph4 E' _ _ hXi hf
  -- phase 3, beginning
  have ph2 : ∀ (E2 : Int → Int → Int) (c s : Nat), dmM m C (itD (opD C) (itD (mvD C) D (D 10 1).toNat) (C 0 1 0).toNat) F E2 → frW m E E2 → L_X10_passes_44 Q [m, 0] [] (L, R, F, E2, N) c s := by
    intro E3 c9 s hX3 hf3
    have e10 : ∀ j : Int, itD (opD C) (itD (mvD C) D (D 10 1).toNat) (C 0 1 0).toNat 10 j = D 10 j := fun j => by rw [B3, A3]
    clear C1 C2 C3 C4 D1 D2 D3 D4 e3
    generalize itD (opD C) (itD (mvD C) D (D 10 1).toNat) (C 0 1 0).toNat = D8 at *
    unfold L_X10_passes_44
    refine lpw (fun n lo st h c s => ∃ (i : Int) (E' : Int → Int → Int), lo = [m, i] ∧ st = [] ∧ h = (L, R, F, E', N) ∧ 0 ≤ i ∧ i ≤ D 10 1 ∧ (n : Int) = D 10 1 - i ∧ frW m E E' ∧ dmM m C (itD (bgD C) D8 i.toNat) F E') ?_ (n := (D 10 1).toNat) ⟨0, E3, rfl, rfl, rfl, by omega, by omega, by omega, hf3, hX3⟩
    rintro n k hk lo st h c9 s ⟨i, E', rfl, rfl, rfl, hi, hi2, hn1, hf, hXi⟩
    have e101 := e10 1
    obtain ⟨w1, w2, w3, w4⟩ := it_only (f := bgD C) (fun D l h u v => bgD_ok h u v) B1 B2 i.toNat (by omega)
    have hS' := hS.fw hf
    by_cases hlt : i < D 10 1
    · have eit := itD_s (f := bgD C) (D := D8) hi
      have f1 : itD (bgD C) D8 i.toNat 10 1 = D 10 1 := (w3 1).trans e101
      have f0 : itD (bgD C) D8 i.toNat 10 0 = D 10 0 := (w3 0).trans (e10 0)
      have r3 : E' (m + 6) (9 * i + 2) = itD (bgD C) D8 i.toNat 3 i := ed_r hXi 2 i (by omega) (by omega) hi (by omega)
      have rh : E' (m + 6) 670 = D 10 0 := (ed_h hXi).trans f0
      have ro := (ed_o hXi i hi (by omega)).1
      have hl := (w1.2.2.1 i hi (by omega)).1
      have hM' := es_m hS'
      have eb : bgD C (itD (bgD C) D8 i.toNat) i = if itD (bgD C) D8 i.toNat 3 i = 0 ∧ C 5 (itD (bgD C) D8 i.toNat 0 i) 5 = itD (bgD C) D8 i.toNat 10 0 then up (itD (bgD C) D8 i.toNat) 3 i 1 else itD (bgD C) D8 i.toNat := rfl
      rw [f0] at eb
      generalize itD (bgD C) D8 i.toNat = Di at *
      have skip : ¬ (Di 3 i = 0 ∧ C 5 (Di 0 i) 5 = D 10 0) → k [m, i + 1] [] (L, R, F, E', N) c9 s := fun z => by
        rw [if_neg z] at eb
        exact hk (n - 1) _ _ _ _ _ (by omega) ⟨i + 1, E', rfl, rfl, rfl, by omega, by omega, by omega, hf, by rw [eit, eb]; exact hXi⟩
      repeat' first
        | exact absurd hc (by decide)
        | simp (disch := omega) only [ub_X10_passes_187, ub_X10_passes_182, ub_X10_passes_103, ue_X10_passes, t_X10_passes, zLg, zRf, zFq, zEl, zNz, zUf, zUe, zUr, zCe, zSn, gd_0, gd_1, gd_2, gd_3, gd_4, gd_5, gd_6, gd_7, gd_8, gd_9, gd_10, gd_11, gd_12, gd_13, gd_14, gd_15, gd_16, gd_17, gd_18, gd_19, se_0, se_1, se_2, se_3, se_4, se_5, se_6, se_7, se_8, se_9, se_10, se_11, se_12, se_13, se_14, se_15, se_16, se_17, se_18, se_19, e_const, e_load, e_store, e_iinc, e_dup, e_dup2, e_pop, e_iadd, e_isub, e_imul, e_ladd, e_lsub, e_lmul, e_iaddw, e_isubw, e_imulw, e_laddw, e_lsubw, e_lmulw, e_iand, e_ior, e_ishl, e_ishr, e_iushr, e_lcmp, e_imax, e_imin, e_idiv, e_irem, e_ldiv, e_lrem, e_i2l, e_i2b, e_l2i, e_i2c, e_getF, e_getR, e_putF, e_putR, e_putz, e_ald, e_aldR, e_ast, e_astb, e_astz, e_asta, e_len, e_acopy, e_new, e_newa, e_mna, e_this, e_room, e_call0, e_callv0, e_call1, e_callv1, e_inv1, e_invv1, e_call2, e_callv2, e_inv2, e_invv2, e_call3, e_callv3, e_inv3, e_invv3, e_call4, e_callv4, e_inv4, e_invv4, e_call5, e_callv5, e_inv5, e_invv5, e_call6, e_callv6, e_inv6, e_invv6, e_call7, e_callv7, e_inv7, e_invv7, e_call8, e_callv8, e_inv8, e_invv8, e_ret, e_retz, e_retc, e_retb, e_retv, e_skip, e_sco, e_tlen, e_tat, e_iz_eq0, e_iz_eq1, e_iz_ne0, e_iz_ne1, add0, sc_d, sc_t, inI_e, inL_e, up_eq, true_or, or_true, or_false, false_or, and_true, true_and, not_false_eq_true, Int.reduceAdd, Int.reduceSub, Int.reduceMul, Int.reduceNeg, e38, r3, rh, ro, hRc, mt_32 hT, mt_34 hT, mt_l6 hT, mt_l8 hT, mc_25 hTc, mc_l20 hTc, mm_o5 hM']
        | with_reducible first | refine izl_lt (fun hc => ?_) (fun hc => ?_) | refine izl_ge (fun hc => ?_) (fun hc => ?_) | refine izl_eq (fun hc => ?_) (fun hc => ?_) | refine ic_ge (fun hc => ?_) (fun hc => ?_) | refine ic_lt (fun hc => ?_) (fun hc => ?_) | refine ic_ne (fun hc => ?_) (fun hc => ?_) | refine ic_eq (fun hc => ?_) (fun hc => ?_) | refine ic_le (fun hc => ?_) (fun hc => ?_) | refine ic_gt (fun hc => ?_) (fun hc => ?_) | refine iz_eq (fun hc => ?_) (fun hc => ?_) | refine iz_ne (fun hc => ?_) (fun hc => ?_) | refine iz_lt (fun hc => ?_) (fun hc => ?_) | refine iz_ge (fun hc => ?_) (fun hc => ?_) | refine iz_gt (fun hc => ?_) (fun hc => ?_) | refine iz_le (fun hc => ?_) (fun hc => ?_) | refine iz_nu (fun hc => ?_) (fun hc => ?_) | refine iz_nn (fun hc => ?_) (fun hc => ?_)
        | omega
        | (exfalso; omega)
      all_goals first
        | exact skip (by omega)
        | skip
      rw [if_pos (by omega)] at eb
      exact hk (n - 1) _ _ _ _ _ (by omega) ⟨i + 1, up E' (m + 6) (9 * i + 2) 1, rfl, rfl, rfl, by omega, by omega, by omega, hf.tr frW.up, by rw [eit, eb]; exact dm_up hXi 2 3 i 1 rfl (by omega) (by omega) hi (by omega)⟩
    · have hie : i = D 10 1 := by omega
      rw [hie] at hXi
      repeat' first
        | exact absurd hc (by decide)
        | simp (disch := omega) only [zLg, zRf, zFq, zEl, zNz, zUf, zUe, zUr, zCe, zSn, gd_0, gd_1, gd_2, gd_3, gd_4, gd_5, gd_6, gd_7, gd_8, gd_9, gd_10, gd_11, gd_12, gd_13, gd_14, gd_15, gd_16, gd_17, gd_18, gd_19, se_0, se_1, se_2, se_3, se_4, se_5, se_6, se_7, se_8, se_9, se_10, se_11, se_12, se_13, se_14, se_15, se_16, se_17, se_18, se_19, e_const, e_load, e_store, e_iinc, e_dup, e_dup2, e_pop, e_iadd, e_isub, e_imul, e_ladd, e_lsub, e_lmul, e_iaddw, e_isubw, e_imulw, e_laddw, e_lsubw, e_lmulw, e_iand, e_ior, e_ishl, e_ishr, e_iushr, e_lcmp, e_imax, e_imin, e_idiv, e_irem, e_ldiv, e_lrem, e_i2l, e_i2b, e_l2i, e_i2c, e_getF, e_getR, e_putF, e_putR, e_putz, e_ald, e_aldR, e_ast, e_astb, e_astz, e_asta, e_len, e_acopy, e_new, e_newa, e_mna, e_this, e_room, e_call0, e_callv0, e_call1, e_callv1, e_inv1, e_invv1, e_call2, e_callv2, e_inv2, e_invv2, e_call3, e_callv3, e_inv3, e_invv3, e_call4, e_callv4, e_inv4, e_invv4, e_call5, e_callv5, e_inv5, e_invv5, e_call6, e_callv6, e_inv6, e_invv6, e_call7, e_callv7, e_inv7, e_invv7, e_call8, e_callv8, e_inv8, e_invv8, e_ret, e_retz, e_retc, e_retb, e_retv, e_skip, e_sco, e_tlen, e_tat, e_iz_eq0, e_iz_eq1, e_iz_ne0, e_iz_ne1, add0, sc_d, sc_t, inI_e, inL_e, up_eq, true_or, or_true, or_false, false_or, and_true, true_and, not_false_eq_true, Int.reduceAdd, Int.reduceSub, Int.reduceMul, Int.reduceNeg, e38]
        | with_reducible first | refine izl_lt (fun hc => ?_) (fun hc => ?_) | refine izl_ge (fun hc => ?_) (fun hc => ?_) | refine izl_eq (fun hc => ?_) (fun hc => ?_) | refine ic_ge (fun hc => ?_) (fun hc => ?_) | refine ic_lt (fun hc => ?_) (fun hc => ?_) | refine ic_ne (fun hc => ?_) (fun hc => ?_) | refine ic_eq (fun hc => ?_) (fun hc => ?_) | refine ic_le (fun hc => ?_) (fun hc => ?_) | refine ic_gt (fun hc => ?_) (fun hc => ?_) | refine iz_eq (fun hc => ?_) (fun hc => ?_) | refine iz_ne (fun hc => ?_) (fun hc => ?_) | refine iz_lt (fun hc => ?_) (fun hc => ?_) | refine iz_ge (fun hc => ?_) (fun hc => ?_) | refine iz_gt (fun hc => ?_) (fun hc => ?_) | refine iz_le (fun hc => ?_) (fun hc => ?_) | refine iz_nu (fun hc => ?_) (fun hc => ?_) | refine iz_nn (fun hc => ?_) (fun hc => ?_)
        | omega
        | (exfalso; omega)
      exact ph3 E' _ _ hXi hf
  -- phase 2
  have ph1 : ∀ (E2 : Int → Int → Int) (c s : Nat), dmM m C (itD (mvD C) D (D 10 1).toNat) F E2 → frW m E E2 → L_X10_passes_23 Q [m, 0] [] (L, R, F, E2, N) c s := by
    intro E3 c9 s hX3 hf3
    unfold L_X10_passes_23
    refine lpw (fun n lo st h c s => ∃ (i : Int) (E' : Int → Int → Int), lo = [m, i] ∧ st = [] ∧ h = (L, R, F, E', N) ∧ 0 ≤ i ∧ i ≤ C 0 1 0 ∧ (n : Int) = C 0 1 0 - i ∧ frW m E E' ∧ dmM m C (itD (opD C) (itD (mvD C) D (D 10 1).toNat) i.toNat) F E') ?_ (n := (C 0 1 0).toNat) ⟨0, E3, rfl, rfl, rfl, by omega, by omega, by omega, hf3, hX3⟩
    rintro n k hk lo st h c9 s ⟨i, E', rfl, rfl, rfl, hi, hi2, hn1, hf, hXi⟩
    obtain ⟨w1, w2, w3, w4⟩ := it_op hW A1 A2 i.toNat (by omega)
    have hS' := hS.fw hf
    by_cases hlt : i < C 0 1 0
    · have eit := itD_s (f := opD C) (D := itD (mvD C) D (D 10 1).toNat) hi
      repeat' first
        | exact absurd hc (by decide)
        | simp (disch := omega) only [ub_X10_passes_187, ub_X10_passes_182, ub_X10_passes_103, ue_X10_passes, t_X10_passes, zLg, zRf, zFq, zEl, zNz, zUf, zUe, zUr, zCe, zSn, gd_0, gd_1, gd_2, gd_3, gd_4, gd_5, gd_6, gd_7, gd_8, gd_9, gd_10, gd_11, gd_12, gd_13, gd_14, gd_15, gd_16, gd_17, gd_18, gd_19, se_0, se_1, se_2, se_3, se_4, se_5, se_6, se_7, se_8, se_9, se_10, se_11, se_12, se_13, se_14, se_15, se_16, se_17, se_18, se_19, e_const, e_load, e_store, e_iinc, e_dup, e_dup2, e_pop, e_iadd, e_isub, e_imul, e_ladd, e_lsub, e_lmul, e_iaddw, e_isubw, e_imulw, e_laddw, e_lsubw, e_lmulw, e_iand, e_ior, e_ishl, e_ishr, e_iushr, e_lcmp, e_imax, e_imin, e_idiv, e_irem, e_ldiv, e_lrem, e_i2l, e_i2b, e_l2i, e_i2c, e_getF, e_getR, e_putF, e_putR, e_putz, e_ald, e_aldR, e_ast, e_astb, e_astz, e_asta, e_len, e_acopy, e_new, e_newa, e_mna, e_this, e_room, e_call0, e_callv0, e_call1, e_callv1, e_inv1, e_invv1, e_call2, e_callv2, e_inv2, e_invv2, e_call3, e_callv3, e_inv3, e_invv3, e_call4, e_callv4, e_inv4, e_invv4, e_call5, e_callv5, e_inv5, e_invv5, e_call6, e_callv6, e_inv6, e_invv6, e_call7, e_callv7, e_inv7, e_invv7, e_call8, e_callv8, e_inv8, e_invv8, e_ret, e_retz, e_retc, e_retb, e_retv, e_skip, e_sco, e_tlen, e_tat, e_iz_eq0, e_iz_eq1, e_iz_ne0, e_iz_ne1, add0, sc_d, sc_t, inI_e, inL_e, up_eq, true_or, or_true, or_false, false_or, and_true, true_and, not_false_eq_true, Int.reduceAdd, Int.reduceSub, Int.reduceMul, Int.reduceNeg, m17]
        | with_reducible first | refine izl_lt (fun hc => ?_) (fun hc => ?_) | refine izl_ge (fun hc => ?_) (fun hc => ?_) | refine izl_eq (fun hc => ?_) (fun hc => ?_) | refine ic_ge (fun hc => ?_) (fun hc => ?_) | refine ic_lt (fun hc => ?_) (fun hc => ?_) | refine ic_ne (fun hc => ?_) (fun hc => ?_) | refine ic_eq (fun hc => ?_) (fun hc => ?_) | refine ic_le (fun hc => ?_) (fun hc => ?_) | refine ic_gt (fun hc => ?_) (fun hc => ?_) | refine iz_eq (fun hc => ?_) (fun hc => ?_) | refine iz_ne (fun hc => ?_) (fun hc => ?_) | refine iz_lt (fun hc => ?_) (fun hc => ?_) | refine iz_ge (fun hc => ?_) (fun hc => ?_) | refine iz_gt (fun hc => ?_) (fun hc => ?_) | refine iz_le (fun hc => ?_) (fun hc => ?_) | refine iz_nu (fun hc => ?_) (fun hc => ?_) | refine iz_nn (fun hc => ?_) (fun hc => ?_)
        | omega
        | (exfalso; omega)
      refine sM_opens hS' hXi w1 w2 (by omega) hi hlt fun E2 q1 q2 => ?_
      exact hk (n - 1) _ _ _ _ _ (by omega) ⟨i + 1, E2, rfl, rfl, rfl, by omega, by omega, by omega, hf.tr q2, by rw [eit]; exact q1⟩
    · have hie : i = C 0 1 0 := by omega
      rw [hie] at hXi
      repeat' first
        | exact absurd hc (by decide)
        | simp (disch := omega) only [zLg, zRf, zFq, zEl, zNz, zUf, zUe, zUr, zCe, zSn, gd_0, gd_1, gd_2, gd_3, gd_4, gd_5, gd_6, gd_7, gd_8, gd_9, gd_10, gd_11, gd_12, gd_13, gd_14, gd_15, gd_16, gd_17, gd_18, gd_19, se_0, se_1, se_2, se_3, se_4, se_5, se_6, se_7, se_8, se_9, se_10, se_11, se_12, se_13, se_14, se_15, se_16, se_17, se_18, se_19, e_const, e_load, e_store, e_iinc, e_dup, e_dup2, e_pop, e_iadd, e_isub, e_imul, e_ladd, e_lsub, e_lmul, e_iaddw, e_isubw, e_imulw, e_laddw, e_lsubw, e_lmulw, e_iand, e_ior, e_ishl, e_ishr, e_iushr, e_lcmp, e_imax, e_imin, e_idiv, e_irem, e_ldiv, e_lrem, e_i2l, e_i2b, e_l2i, e_i2c, e_getF, e_getR, e_putF, e_putR, e_putz, e_ald, e_aldR, e_ast, e_astb, e_astz, e_asta, e_len, e_acopy, e_new, e_newa, e_mna, e_this, e_room, e_call0, e_callv0, e_call1, e_callv1, e_inv1, e_invv1, e_call2, e_callv2, e_inv2, e_invv2, e_call3, e_callv3, e_inv3, e_invv3, e_call4, e_callv4, e_inv4, e_invv4, e_call5, e_callv5, e_inv5, e_invv5, e_call6, e_callv6, e_inv6, e_invv6, e_call7, e_callv7, e_inv7, e_invv7, e_call8, e_callv8, e_inv8, e_invv8, e_ret, e_retz, e_retc, e_retb, e_retv, e_skip, e_sco, e_tlen, e_tat, e_iz_eq0, e_iz_eq1, e_iz_ne0, e_iz_ne1, add0, sc_d, sc_t, inI_e, inL_e, up_eq, true_or, or_true, or_false, false_or, and_true, true_and, not_false_eq_true, Int.reduceAdd, Int.reduceSub, Int.reduceMul, Int.reduceNeg, m17]
        | with_reducible first | refine izl_lt (fun hc => ?_) (fun hc => ?_) | refine izl_ge (fun hc => ?_) (fun hc => ?_) | refine izl_eq (fun hc => ?_) (fun hc => ?_) | refine ic_ge (fun hc => ?_) (fun hc => ?_) | refine ic_lt (fun hc => ?_) (fun hc => ?_) | refine ic_ne (fun hc => ?_) (fun hc => ?_) | refine ic_eq (fun hc => ?_) (fun hc => ?_) | refine ic_le (fun hc => ?_) (fun hc => ?_) | refine ic_gt (fun hc => ?_) (fun hc => ?_) | refine iz_eq (fun hc => ?_) (fun hc => ?_) | refine iz_ne (fun hc => ?_) (fun hc => ?_) | refine iz_lt (fun hc => ?_) (fun hc => ?_) | refine iz_ge (fun hc => ?_) (fun hc => ?_) | refine iz_gt (fun hc => ?_) (fun hc => ?_) | refine iz_le (fun hc => ?_) (fun hc => ?_) | refine iz_nu (fun hc => ?_) (fun hc => ?_) | refine iz_nn (fun hc => ?_) (fun hc => ?_)
        | omega
        | (exfalso; omega)
      exact ph2 E' _ _ hXi hf
  unfold L_X10_passes_2
  refine lpw (fun n lo st h c s => ∃ (i : Int) (E' : Int → Int → Int), lo = [m, i] ∧ st = [] ∧ h = (L, R, F, E', N) ∧ 0 ≤ i ∧ i ≤ D 10 1 ∧ (n : Int) = D 10 1 - i ∧ frW m E E' ∧ dmM m C (itD (mvD C) D i.toNat) F E') ?_ (n := (D 10 1).toNat) ⟨0, E, rfl, rfl, rfl, by omega, by omega, by omega, frW.rf, hX⟩
  rintro n k hk lo st h c9 s ⟨i, E', rfl, rfl, rfl, hi, hi2, hn1, hf, hXi⟩
  obtain ⟨w1, w2, w3, w4⟩ := it_only (f := mvD C) (fun D l h u v => mvD_ok hW h u v) hw hK i.toNat (by omega)
  have hS' := hS.fw hf
  by_cases hlt : i < D 10 1
  · have eit := itD_s (f := mvD C) (D := D) hi
    repeat' first
      | exact absurd hc (by decide)
      | simp (disch := omega) only [ub_X10_passes_187, ub_X10_passes_182, ub_X10_passes_103, ue_X10_passes, t_X10_passes, zLg, zRf, zFq, zEl, zNz, zUf, zUe, zUr, zCe, zSn, gd_0, gd_1, gd_2, gd_3, gd_4, gd_5, gd_6, gd_7, gd_8, gd_9, gd_10, gd_11, gd_12, gd_13, gd_14, gd_15, gd_16, gd_17, gd_18, gd_19, se_0, se_1, se_2, se_3, se_4, se_5, se_6, se_7, se_8, se_9, se_10, se_11, se_12, se_13, se_14, se_15, se_16, se_17, se_18, se_19, e_const, e_load, e_store, e_iinc, e_dup, e_dup2, e_pop, e_iadd, e_isub, e_imul, e_ladd, e_lsub, e_lmul, e_iaddw, e_isubw, e_imulw, e_laddw, e_lsubw, e_lmulw, e_iand, e_ior, e_ishl, e_ishr, e_iushr, e_lcmp, e_imax, e_imin, e_idiv, e_irem, e_ldiv, e_lrem, e_i2l, e_i2b, e_l2i, e_i2c, e_getF, e_getR, e_putF, e_putR, e_putz, e_ald, e_aldR, e_ast, e_astb, e_astz, e_asta, e_len, e_acopy, e_new, e_newa, e_mna, e_this, e_room, e_call0, e_callv0, e_call1, e_callv1, e_inv1, e_invv1, e_call2, e_callv2, e_inv2, e_invv2, e_call3, e_callv3, e_inv3, e_invv3, e_call4, e_callv4, e_inv4, e_invv4, e_call5, e_callv5, e_inv5, e_invv5, e_call6, e_callv6, e_inv6, e_invv6, e_call7, e_callv7, e_inv7, e_invv7, e_call8, e_callv8, e_inv8, e_invv8, e_ret, e_retz, e_retc, e_retb, e_retv, e_skip, e_sco, e_tlen, e_tat, e_iz_eq0, e_iz_eq1, e_iz_ne0, e_iz_ne1, add0, sc_d, sc_t, inI_e, inL_e, up_eq, true_or, or_true, or_false, false_or, and_true, true_and, not_false_eq_true, Int.reduceAdd, Int.reduceSub, Int.reduceMul, Int.reduceNeg, e38]
      | with_reducible first | refine izl_lt (fun hc => ?_) (fun hc => ?_) | refine izl_ge (fun hc => ?_) (fun hc => ?_) | refine izl_eq (fun hc => ?_) (fun hc => ?_) | refine ic_ge (fun hc => ?_) (fun hc => ?_) | refine ic_lt (fun hc => ?_) (fun hc => ?_) | refine ic_ne (fun hc => ?_) (fun hc => ?_) | refine ic_eq (fun hc => ?_) (fun hc => ?_) | refine ic_le (fun hc => ?_) (fun hc => ?_) | refine ic_gt (fun hc => ?_) (fun hc => ?_) | refine iz_eq (fun hc => ?_) (fun hc => ?_) | refine iz_ne (fun hc => ?_) (fun hc => ?_) | refine iz_lt (fun hc => ?_) (fun hc => ?_) | refine iz_ge (fun hc => ?_) (fun hc => ?_) | refine iz_gt (fun hc => ?_) (fun hc => ?_) | refine iz_le (fun hc => ?_) (fun hc => ?_) | refine iz_nu (fun hc => ?_) (fun hc => ?_) | refine iz_nn (fun hc => ?_) (fun hc => ?_)
      | omega
      | (exfalso; omega)
    refine sM_moves hS' hXi w1 hi (by rw [w3]; omega) fun E2 q1 q2 => ?_
    exact hk (n - 1) _ _ _ _ _ (by omega) ⟨i + 1, E2, rfl, rfl, rfl, by omega, by omega, by omega, hf.tr q2, by rw [eit]; exact q1⟩
  · have hie : i = D 10 1 := by omega
    rw [hie] at hXi
    repeat' first
      | exact absurd hc (by decide)
      | simp (disch := omega) only [zLg, zRf, zFq, zEl, zNz, zUf, zUe, zUr, zCe, zSn, gd_0, gd_1, gd_2, gd_3, gd_4, gd_5, gd_6, gd_7, gd_8, gd_9, gd_10, gd_11, gd_12, gd_13, gd_14, gd_15, gd_16, gd_17, gd_18, gd_19, se_0, se_1, se_2, se_3, se_4, se_5, se_6, se_7, se_8, se_9, se_10, se_11, se_12, se_13, se_14, se_15, se_16, se_17, se_18, se_19, e_const, e_load, e_store, e_iinc, e_dup, e_dup2, e_pop, e_iadd, e_isub, e_imul, e_ladd, e_lsub, e_lmul, e_iaddw, e_isubw, e_imulw, e_laddw, e_lsubw, e_lmulw, e_iand, e_ior, e_ishl, e_ishr, e_iushr, e_lcmp, e_imax, e_imin, e_idiv, e_irem, e_ldiv, e_lrem, e_i2l, e_i2b, e_l2i, e_i2c, e_getF, e_getR, e_putF, e_putR, e_putz, e_ald, e_aldR, e_ast, e_astb, e_astz, e_asta, e_len, e_acopy, e_new, e_newa, e_mna, e_this, e_room, e_call0, e_callv0, e_call1, e_callv1, e_inv1, e_invv1, e_call2, e_callv2, e_inv2, e_invv2, e_call3, e_callv3, e_inv3, e_invv3, e_call4, e_callv4, e_inv4, e_invv4, e_call5, e_callv5, e_inv5, e_invv5, e_call6, e_callv6, e_inv6, e_invv6, e_call7, e_callv7, e_inv7, e_invv7, e_call8, e_callv8, e_inv8, e_invv8, e_ret, e_retz, e_retc, e_retb, e_retv, e_skip, e_sco, e_tlen, e_tat, e_iz_eq0, e_iz_eq1, e_iz_ne0, e_iz_ne1, add0, sc_d, sc_t, inI_e, inL_e, up_eq, true_or, or_true, or_false, false_or, and_true, true_and, not_false_eq_true, Int.reduceAdd, Int.reduceSub, Int.reduceMul, Int.reduceNeg, e38]
      | with_reducible first | refine izl_lt (fun hc => ?_) (fun hc => ?_) | refine izl_ge (fun hc => ?_) (fun hc => ?_) | refine izl_eq (fun hc => ?_) (fun hc => ?_) | refine ic_ge (fun hc => ?_) (fun hc => ?_) | refine ic_lt (fun hc => ?_) (fun hc => ?_) | refine ic_ne (fun hc => ?_) (fun hc => ?_) | refine ic_eq (fun hc => ?_) (fun hc => ?_) | refine ic_le (fun hc => ?_) (fun hc => ?_) | refine ic_gt (fun hc => ?_) (fun hc => ?_) | refine iz_eq (fun hc => ?_) (fun hc => ?_) | refine iz_ne (fun hc => ?_) (fun hc => ?_) | refine iz_lt (fun hc => ?_) (fun hc => ?_) | refine iz_ge (fun hc => ?_) (fun hc => ?_) | refine iz_gt (fun hc => ?_) (fun hc => ?_) | refine iz_le (fun hc => ?_) (fun hc => ?_) | refine iz_nu (fun hc => ?_) (fun hc => ?_) | refine iz_nn (fun hc => ?_) (fun hc => ?_)
      | omega
      | (exfalso; omega)
    exact ph1 E' _ _ hXi hf
end DAYM3

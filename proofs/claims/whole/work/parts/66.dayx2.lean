/-! ===== the class's day: an hour ===== -/
/-- a load leaves its cart -/
theorem cRr_leave {d : Int} {C : Cy} {D D' E E' : Int → Int → Int} {l : Int} (h : cRr d D E) (hw : dWf C D) (h0 : 0 ≤ l) (h1 : l < D 10 1) (ho : only D D' l) (h6 : D' 6 l = -2) (hE1 : 0 ≤ D 6 l → E' (d + 12) (D 6 l) = -2) (hE2 : ∀ c : Int, c ≠ D 6 l → E' (d + 12) c = E (d + 12) c) : cRr d D' E' := by
  intro c c0 c8
  have e10 := ho 10 1 (by omega)
  have hc := h c c0 c8
  unfold onV at *
  rw [e10]
  by_cases z : c = D 6 l
  · refine Or.inl ⟨by rw [z]; exact hE1 (by omega), fun l' x y => ?_⟩
    by_cases w : l' = l
    · subst w; omega
    · rw [ho 6 l' (Or.inl w)]
      intro q
      have := (ldW_u hw x y h0 h1 w).1 (by omega)
      omega
  · rw [hE2 c z]
    rcases hc with ⟨p, q⟩ | ⟨p, q, r⟩
    · refine Or.inl ⟨p, fun l' x y => ?_⟩
      by_cases w : l' = l
      · subst w; omega
      · rw [ho 6 l' (Or.inl w)]; exact q l' x y
    · refine Or.inr ⟨p, q, ?_⟩
      have w : E (d + 12) c ≠ l := fun w => z (by rw [w] at r; exact r.symm)
      rw [ho 6 _ (Or.inl w)]
      exact r
/-- a load leaves its gate -/
theorem gRr_leave {d : Int} {C : Cy} {D D' E E' : Int → Int → Int} {l : Int} (h : gRr d C D E) (hw : dWf C D) (h0 : 0 ≤ l) (h1 : l < D 10 1) (ho : only D D' l) (h3 : D 3 l = 4) (h3' : D' 3 l ≠ 4) (hE1 : E' (d + 13) (gah C D l) = -2) (hE2 : ∀ g : Int, g ≠ gah C D l → E' (d + 13) g = E (d + 13) g) : gRr d C D' E' := by
  intro g g0 g1
  have e10 := ho 10 1 (by omega)
  have eg : ∀ l' : Int, l' ≠ l → gah C D' l' = gah C D l' := fun l' w => gah_eq (ho _ _ (Or.inl w)) (ho _ _ (Or.inl w))
  have hg := h g g0 g1
  unfold bzV at *
  rw [e10]
  by_cases z : g = gah C D l
  · refine Or.inl ⟨by rw [z]; exact hE1, fun l' x y q => ?_⟩
    by_cases w : l' = l
    · subst w; exact h3' q.1
    · rw [ho 3 l' (Or.inl w), eg l' w] at q
      exact (ldW_u hw x y h0 h1 w).2 q.1 h3 (by omega)
  · rw [hE2 g z]
    rcases hg with ⟨p, q⟩ | ⟨p, q, r, s⟩
    · refine Or.inl ⟨p, fun l' x y => ?_⟩
      by_cases w : l' = l
      · subst w; exact fun q => h3' q.1
      · rw [ho 3 l' (Or.inl w), eg l' w]; exact q l' x y
    · have w : E (d + 13) g ≠ l := fun w => z (by rw [w] at s; exact s.symm)
      exact Or.inr ⟨p, q, by rw [ho 3 _ (Or.inl w)]; exact r, by rw [eg _ w]; exact s⟩
section DAYX2
variable {L : Int → Int} {R F E : Int → Int → Int} {N : Nat} {Q : xQ} {d a y l g : Int} {C : Cy} {D : Int → Int → Int}
theorem sX_advance (hS : dyS d a y C L R F E) (hX : dyX d C D F E) (hw : dWf C D) (h0 : 0 ≤ l) (h1 : l < D 10 1) (hQ : ∀ E' : Int → Int → Int, dyX d C (mvD C D l) F E' → frI d (d + 17) E E' → Q 0 (L, R, F, E', N)) : T_X2_advance [d, l] (L, R, F, E, N) Q := by
  have hT := ds_t hS
  have pd := dt_p hT
  have b2 := cw_2 (ds_cw hS)
  obtain ⟨x1, x2, hR, hcr, hg, ht⟩ := hX
  have hn := hw.2.1
  have hl := hw.2.2.1 l h0 h1
  have hl' := hl
  obtain ⟨a0, af, a1, a2, a3, a4, a6, a8, a9⟩ := hl'
  have r3 := hR 3 l (by omega) (by omega) h0 h1
  have r4 := hR 4 l (by omega) (by omega) h0 h1
  obtain ⟨mw, mo⟩ := mvD_ok (ds_cw hS) hw h0 h1
  have m10 := mo 10 1 (by omega)
  have m100 := mo 10 0 (by omega)
  have tt : ∀ E' : Int → Int → Int, frI (d + 2) (d + 14) E E' → tRr d (mvD C D l) E' := fun E' he g x z => by
    rw [he _ _ (by omega), he _ _ (by omega), mo _ _ (by omega), mo _ _ (by omega)]
    exact ht g x z
  have hR1 : dR d (up D 4 l (D 4 l - 1)) (up E (d + 2 + 4) l (D 4 l - 1)) := dR_up hR (by omega)
  have hS1 := hS.fi (frI.rf (F := F)) (frI.up (F := E) (a := d + 2 + 4) (i := l) (v := D 4 l - 1) (by omega : d ≤ d + 2 + 4) (by omega))
  have hl1 : ldV C (up D 4 l (D 4 l - 1)) l := hl.v.up (by omega)
  have e10 : up D 4 l (D 4 l - 1) 10 1 = D 10 1 := up_ne (by omega)
  have e100 : up D 4 l (D 4 l - 1) 10 0 = D 10 0 := up_ne (by omega)
  have e6 : up D 4 l (D 4 l - 1) 6 l = D 6 l := up_ne (by omega)
  have e8 : up D 4 l (D 4 l - 1) 8 l = D 8 l := up_ne (by omega)
  have e0 : up D 4 l (D 4 l - 1) 0 l = D 0 l := up_ne (by omega)
  have eg : gah C (up D 4 l (D 4 l - 1)) l = gah C D l := gah_eq (up_ne (by omega)) (up_ne (by omega))
  by_cases hs : D 3 l ≠ 2 ∧ D 3 l ≠ 4
  · have em : mvD C D l = D := if_pos hs
    rw [em] at hQ
    repeat' first
      | exact absurd hc (by decide)
      | simp (disch := omega) only [ub_X2_advance_62, ub_X2_advance_20, ue_X2_advance, t_X2_advance, zLg, zRf, zFq, zEl, zNz, zUf, zUe, zUr, zCe, zSn, gd_0, gd_1, gd_2, gd_3, gd_4, gd_5, gd_6, gd_7, gd_8, gd_9, gd_10, gd_11, gd_12, gd_13, gd_14, gd_15, gd_16, gd_17, gd_18, gd_19, se_0, se_1, se_2, se_3, se_4, se_5, se_6, se_7, se_8, se_9, se_10, se_11, se_12, se_13, se_14, se_15, se_16, se_17, se_18, se_19, e_const, e_load, e_store, e_iinc, e_dup, e_dup2, e_pop, e_iadd, e_isub, e_imul, e_ladd, e_lsub, e_lmul, e_iaddw, e_isubw, e_imulw, e_laddw, e_lsubw, e_lmulw, e_iand, e_ior, e_ishl, e_ishr, e_iushr, e_lcmp, e_imax, e_imin, e_idiv, e_irem, e_ldiv, e_lrem, e_i2l, e_i2b, e_l2i, e_i2c, e_getF, e_getR, e_putF, e_putR, e_putz, e_ald, e_aldR, e_ast, e_astb, e_astz, e_asta, e_len, e_acopy, e_new, e_newa, e_mna, e_this, e_room, e_call0, e_callv0, e_call1, e_callv1, e_inv1, e_invv1, e_call2, e_callv2, e_inv2, e_invv2, e_call3, e_callv3, e_inv3, e_invv3, e_call4, e_callv4, e_inv4, e_invv4, e_call5, e_callv5, e_inv5, e_invv5, e_call6, e_callv6, e_inv6, e_invv6, e_call7, e_callv7, e_inv7, e_invv7, e_call8, e_callv8, e_inv8, e_invv8, e_ret, e_retz, e_retc, e_retb, e_retv, e_skip, e_sco, e_tlen, e_tat, e_iz_eq0, e_iz_eq1, e_iz_ne0, e_iz_ne1, add0, sc_d, sc_t, inI_e, inL_e, up_eq, true_or, or_true, or_false, false_or, and_true, true_and, not_false_eq_true, Int.reduceAdd, Int.reduceSub, Int.reduceMul, Int.reduceNeg, r3, dt_2 hT, dt_l1 hT, dt_r hT, dt_lr hT]
      | with_reducible first | refine izl_lt (fun hc => ?_) (fun hc => ?_) | refine izl_ge (fun hc => ?_) (fun hc => ?_) | refine izl_eq (fun hc => ?_) (fun hc => ?_) | refine ic_ge (fun hc => ?_) (fun hc => ?_) | refine ic_lt (fun hc => ?_) (fun hc => ?_) | refine ic_ne (fun hc => ?_) (fun hc => ?_) | refine ic_eq (fun hc => ?_) (fun hc => ?_) | refine ic_le (fun hc => ?_) (fun hc => ?_) | refine ic_gt (fun hc => ?_) (fun hc => ?_) | refine iz_eq (fun hc => ?_) (fun hc => ?_) | refine iz_ne (fun hc => ?_) (fun hc => ?_) | refine iz_lt (fun hc => ?_) (fun hc => ?_) | refine iz_ge (fun hc => ?_) (fun hc => ?_) | refine iz_gt (fun hc => ?_) (fun hc => ?_) | refine iz_le (fun hc => ?_) (fun hc => ?_) | refine iz_nu (fun hc => ?_) (fun hc => ?_) | refine iz_nn (fun hc => ?_) (fun hc => ?_)
      | omega
      | (exfalso; omega)
    exact hQ E ⟨x1, x2, hR, hcr, hg, ht⟩ frI.rf
  · have em : mvD C D l = if 0 < D 4 l - 1 then up D 4 l (D 4 l - 1) else if D 3 l = 2 then lcD C (up D 4 l (D 4 l - 1)) l else lgD C (up D 4 l (D 4 l - 1)) l := if_neg hs
    by_cases h4 : 0 < D 4 l - 1
    · rw [if_pos h4] at em
      have done : Q 0 (L, R, F, up E (d + 2 + 4) l (D 4 l - 1), N) := by
        refine hQ _ ?_ (frI.up (by omega) (by omega))
        refine ⟨by rw [m100]; exact x1, by rw [m10]; exact x2, by rw [em]; exact hR1, fun c u v => ?_, fun g u v => ?_, tt _ (frI.up (by omega) (by omega))⟩
        · rw [up_ne (by omega), em]
          exact onV_same (fun q _ _ => up_ne (by omega)) e10 (hcr c u v)
        · rw [up_ne (by omega), em]
          exact bzV_same (fun q _ _ => ⟨by rw [up_ne (by omega)], fun _ => gah_eq (up_ne (by omega)) (up_ne (by omega))⟩) e10 (hg g u v)
      repeat' first
        | exact absurd hc (by decide)
        | simp (disch := omega) only [ub_X2_advance_62, ub_X2_advance_20, ue_X2_advance, t_X2_advance, zLg, zRf, zFq, zEl, zNz, zUf, zUe, zUr, zCe, zSn, gd_0, gd_1, gd_2, gd_3, gd_4, gd_5, gd_6, gd_7, gd_8, gd_9, gd_10, gd_11, gd_12, gd_13, gd_14, gd_15, gd_16, gd_17, gd_18, gd_19, se_0, se_1, se_2, se_3, se_4, se_5, se_6, se_7, se_8, se_9, se_10, se_11, se_12, se_13, se_14, se_15, se_16, se_17, se_18, se_19, e_const, e_load, e_store, e_iinc, e_dup, e_dup2, e_pop, e_iadd, e_isub, e_imul, e_ladd, e_lsub, e_lmul, e_iaddw, e_isubw, e_imulw, e_laddw, e_lsubw, e_lmulw, e_iand, e_ior, e_ishl, e_ishr, e_iushr, e_lcmp, e_imax, e_imin, e_idiv, e_irem, e_ldiv, e_lrem, e_i2l, e_i2b, e_l2i, e_i2c, e_getF, e_getR, e_putF, e_putR, e_putz, e_ald, e_aldR, e_ast, e_astb, e_astz, e_asta, e_len, e_acopy, e_new, e_newa, e_mna, e_this, e_room, e_call0, e_callv0, e_call1, e_callv1, e_inv1, e_invv1, e_call2, e_callv2, e_inv2, e_invv2, e_call3, e_callv3, e_inv3, e_invv3, e_call4, e_callv4, e_inv4, e_invv4, e_call5, e_callv5, e_inv5, e_invv5, e_call6, e_callv6, e_inv6, e_invv6, e_call7, e_callv7, e_inv7, e_invv7, e_call8, e_callv8, e_inv8, e_invv8, e_ret, e_retz, e_retc, e_retb, e_retv, e_skip, e_sco, e_tlen, e_tat, e_iz_eq0, e_iz_eq1, e_iz_ne0, e_iz_ne1, add0, sc_d, sc_t, inI_e, inL_e, up_eq, true_or, or_true, or_false, false_or, and_true, true_and, not_false_eq_true, Int.reduceAdd, Int.reduceSub, Int.reduceMul, Int.reduceNeg, r3, r4, dt_2 hT, dt_l1 hT, dt_r hT, dt_lr hT]
        | with_reducible first | refine izl_lt (fun hc => ?_) (fun hc => ?_) | refine izl_ge (fun hc => ?_) (fun hc => ?_) | refine izl_eq (fun hc => ?_) (fun hc => ?_) | refine ic_ge (fun hc => ?_) (fun hc => ?_) | refine ic_lt (fun hc => ?_) (fun hc => ?_) | refine ic_ne (fun hc => ?_) (fun hc => ?_) | refine ic_eq (fun hc => ?_) (fun hc => ?_) | refine ic_le (fun hc => ?_) (fun hc => ?_) | refine ic_gt (fun hc => ?_) (fun hc => ?_) | refine iz_eq (fun hc => ?_) (fun hc => ?_) | refine iz_ne (fun hc => ?_) (fun hc => ?_) | refine iz_lt (fun hc => ?_) (fun hc => ?_) | refine iz_ge (fun hc => ?_) (fun hc => ?_) | refine iz_gt (fun hc => ?_) (fun hc => ?_) | refine iz_le (fun hc => ?_) (fun hc => ?_) | refine iz_nu (fun hc => ?_) (fun hc => ?_) | refine iz_nn (fun hc => ?_) (fun hc => ?_)
        | omega
        | (exfalso; omega)
      all_goals exact done
    · rw [if_neg h4] at em
      by_cases h2 : D 3 l = 2
      · rw [if_pos h2] at em
        repeat' first
          | exact absurd hc (by decide)
          | with_reducible refine sX_leaveCart hS1 hR1 ?_ hl1 ?_ ?_ ?_ h0 ?_ (fun E' q1 q2 q3 q4 => ?_)
          | simp (disch := omega) only [ub_X2_advance_62, ub_X2_advance_20, ue_X2_advance, t_X2_advance, zLg, zRf, zFq, zEl, zNz, zUf, zUe, zUr, zCe, zSn, gd_0, gd_1, gd_2, gd_3, gd_4, gd_5, gd_6, gd_7, gd_8, gd_9, gd_10, gd_11, gd_12, gd_13, gd_14, gd_15, gd_16, gd_17, gd_18, gd_19, se_0, se_1, se_2, se_3, se_4, se_5, se_6, se_7, se_8, se_9, se_10, se_11, se_12, se_13, se_14, se_15, se_16, se_17, se_18, se_19, e_const, e_load, e_store, e_iinc, e_dup, e_dup2, e_pop, e_iadd, e_isub, e_imul, e_ladd, e_lsub, e_lmul, e_iaddw, e_isubw, e_imulw, e_laddw, e_lsubw, e_lmulw, e_iand, e_ior, e_ishl, e_ishr, e_iushr, e_lcmp, e_imax, e_imin, e_idiv, e_irem, e_ldiv, e_lrem, e_i2l, e_i2b, e_l2i, e_i2c, e_getF, e_getR, e_putF, e_putR, e_putz, e_ald, e_aldR, e_ast, e_astb, e_astz, e_asta, e_len, e_acopy, e_new, e_newa, e_mna, e_this, e_room, e_call0, e_callv0, e_call1, e_callv1, e_inv1, e_invv1, e_call2, e_callv2, e_inv2, e_invv2, e_call3, e_callv3, e_inv3, e_invv3, e_call4, e_callv4, e_inv4, e_invv4, e_call5, e_callv5, e_inv5, e_invv5, e_call6, e_callv6, e_inv6, e_invv6, e_call7, e_callv7, e_inv7, e_invv7, e_call8, e_callv8, e_inv8, e_invv8, e_ret, e_retz, e_retc, e_retb, e_retv, e_skip, e_sco, e_tlen, e_tat, e_iz_eq0, e_iz_eq1, e_iz_ne0, e_iz_ne1, add0, sc_d, sc_t, inI_e, inL_e, up_eq, true_or, or_true, or_false, false_or, and_true, true_and, not_false_eq_true, Int.reduceAdd, Int.reduceSub, Int.reduceMul, Int.reduceNeg, r3, r4, dt_2 hT, dt_l1 hT, dt_r hT, dt_lr hT]
          | with_reducible first | refine izl_lt (fun hc => ?_) (fun hc => ?_) | refine izl_ge (fun hc => ?_) (fun hc => ?_) | refine izl_eq (fun hc => ?_) (fun hc => ?_) | refine ic_ge (fun hc => ?_) (fun hc => ?_) | refine ic_lt (fun hc => ?_) (fun hc => ?_) | refine ic_ne (fun hc => ?_) (fun hc => ?_) | refine ic_eq (fun hc => ?_) (fun hc => ?_) | refine ic_le (fun hc => ?_) (fun hc => ?_) | refine ic_gt (fun hc => ?_) (fun hc => ?_) | refine iz_eq (fun hc => ?_) (fun hc => ?_) | refine iz_ne (fun hc => ?_) (fun hc => ?_) | refine iz_lt (fun hc => ?_) (fun hc => ?_) | refine iz_ge (fun hc => ?_) (fun hc => ?_) | refine iz_gt (fun hc => ?_) (fun hc => ?_) | refine iz_le (fun hc => ?_) (fun hc => ?_) | refine iz_nu (fun hc => ?_) (fun hc => ?_) | refine iz_nn (fun hc => ?_) (fun hc => ?_)
          | omega
          | (exfalso; omega)
        rw [e6] at q3 q4
        refine hQ E' ⟨by rw [m100]; exact x1, by rw [m10]; exact x2, by rw [em]; exact q1, cRr_leave hcr hw h0 h1 mo ?_ (fun _ => q3) (fun c z => ?_), fun g u v => ?_, tt _ (fun b j z => ?_)⟩ (fun b j z => ?_)
        · have r := arD_row (C := C) (D := up (up (up D 4 l (D 4 l - 1)) 6 l (-2)) 2 l (plah C (up D 4 l (D 4 l - 1)) l)) (l := l)
          rw [em]
          show arD C (up (up (up D 4 l (D 4 l - 1)) 6 l (-2)) 2 l (plah C (up D 4 l (D 4 l - 1)) l)) l 6 l = -2
          rw [r.2 6 (by omega) (by omega) (by omega)]
          simp (disch := omega) only [up_ne, up_eq]
        · rw [q4 c z, up_ne (by omega)]
        · rw [q2 _ _ (by omega), up_ne (by omega)]
          refine bzV_same (fun q u v => ?_) m10 (hg g u v)
          by_cases w : q = l
          · subst w
            have r := arD_row (C := C) (D := up (up (up D 4 q (D 4 q - 1)) 6 q (-2)) 2 q (plah C (up D 4 q (D 4 q - 1)) q)) (l := q)
            have : mvD C D q 3 q ≠ 4 := by
              rw [em]
              show arD C (up (up (up D 4 q (D 4 q - 1)) 6 q (-2)) 2 q (plah C (up D 4 q (D 4 q - 1)) q)) q 3 q ≠ 4
              omega
            exact ⟨⟨fun z => absurd z this, fun z => by omega⟩, fun z => by omega⟩
          · rw [mo _ _ (Or.inl w)]
            exact ⟨Iff.rfl, fun _ => gah_eq (mo _ _ (Or.inl w)) (mo _ _ (Or.inl w))⟩
        · rw [q2 _ _ (by omega), up_ne (by omega)]
        · rw [q2 _ _ (by omega), up_ne (by omega)]
      · rw [if_neg h2] at em
        have h34 : D 3 l = 4 := by omega
        have h8' : up D 4 l (D 4 l - 1) 8 l < bO C (up D 4 l (D 4 l - 1) 0 l) 5 := by rw [e8, e0]; exact a9 (Or.inr h34)
        have h3' : mvD C D l 3 l ≠ 4 := by
          have := (mw.2.2.1 l h0 (by omega))
          rw [em]
          unfold lgD
          split
          · have r := arD_row (C := C) (D := lgD0 C (up D 4 l (D 4 l - 1)) l) (l := l)
            omega
          · unfold lgD0
            rw [up_eq]
            omega
        repeat' first
          | exact absurd hc (by decide)
          | with_reducible refine sX_leaveGate hS1 hR1 ?_ hl1 h8' ?_ h0 ?_ (fun E' q1 q2 q3 q4 q5 => ?_)
          | simp (disch := omega) only [ub_X2_advance_62, ub_X2_advance_20, ue_X2_advance, t_X2_advance, zLg, zRf, zFq, zEl, zNz, zUf, zUe, zUr, zCe, zSn, gd_0, gd_1, gd_2, gd_3, gd_4, gd_5, gd_6, gd_7, gd_8, gd_9, gd_10, gd_11, gd_12, gd_13, gd_14, gd_15, gd_16, gd_17, gd_18, gd_19, se_0, se_1, se_2, se_3, se_4, se_5, se_6, se_7, se_8, se_9, se_10, se_11, se_12, se_13, se_14, se_15, se_16, se_17, se_18, se_19, e_const, e_load, e_store, e_iinc, e_dup, e_dup2, e_pop, e_iadd, e_isub, e_imul, e_ladd, e_lsub, e_lmul, e_iaddw, e_isubw, e_imulw, e_laddw, e_lsubw, e_lmulw, e_iand, e_ior, e_ishl, e_ishr, e_iushr, e_lcmp, e_imax, e_imin, e_idiv, e_irem, e_ldiv, e_lrem, e_i2l, e_i2b, e_l2i, e_i2c, e_getF, e_getR, e_putF, e_putR, e_putz, e_ald, e_aldR, e_ast, e_astb, e_astz, e_asta, e_len, e_acopy, e_new, e_newa, e_mna, e_this, e_room, e_call0, e_callv0, e_call1, e_callv1, e_inv1, e_invv1, e_call2, e_callv2, e_inv2, e_invv2, e_call3, e_callv3, e_inv3, e_invv3, e_call4, e_callv4, e_inv4, e_invv4, e_call5, e_callv5, e_inv5, e_invv5, e_call6, e_callv6, e_inv6, e_invv6, e_call7, e_callv7, e_inv7, e_invv7, e_call8, e_callv8, e_inv8, e_invv8, e_ret, e_retz, e_retc, e_retb, e_retv, e_skip, e_sco, e_tlen, e_tat, e_iz_eq0, e_iz_eq1, e_iz_ne0, e_iz_ne1, add0, sc_d, sc_t, inI_e, inL_e, up_eq, true_or, or_true, or_false, false_or, and_true, true_and, not_false_eq_true, Int.reduceAdd, Int.reduceSub, Int.reduceMul, Int.reduceNeg, r3, r4, dt_2 hT, dt_l1 hT, dt_r hT, dt_lr hT]
          | with_reducible first | refine izl_lt (fun hc => ?_) (fun hc => ?_) | refine izl_ge (fun hc => ?_) (fun hc => ?_) | refine izl_eq (fun hc => ?_) (fun hc => ?_) | refine ic_ge (fun hc => ?_) (fun hc => ?_) | refine ic_lt (fun hc => ?_) (fun hc => ?_) | refine ic_ne (fun hc => ?_) (fun hc => ?_) | refine ic_eq (fun hc => ?_) (fun hc => ?_) | refine ic_le (fun hc => ?_) (fun hc => ?_) | refine ic_gt (fun hc => ?_) (fun hc => ?_) | refine iz_eq (fun hc => ?_) (fun hc => ?_) | refine iz_ne (fun hc => ?_) (fun hc => ?_) | refine iz_lt (fun hc => ?_) (fun hc => ?_) | refine iz_ge (fun hc => ?_) (fun hc => ?_) | refine iz_gt (fun hc => ?_) (fun hc => ?_) | refine iz_le (fun hc => ?_) (fun hc => ?_) | refine iz_nu (fun hc => ?_) (fun hc => ?_) | refine iz_nn (fun hc => ?_) (fun hc => ?_)
          | omega
          | (exfalso; omega)
        rw [eg] at q3 q4
        refine hQ E' ⟨by rw [m100]; exact x1, by rw [m10]; exact x2, by rw [em]; exact q1, fun c u v => ?_, gRr_leave hg hw h0 h1 mo h34 h3' q3 (fun g z => ?_), tt _ (fun b j z => ?_)⟩ (fun b j z => ?_)
        · rw [q5, up_ne (by omega)]
          refine onV_same (fun q u v => ?_) m10 (hcr c u v)
          by_cases w : q = l
          · subst w
            have := (mw.2.2.1 q h0 (by omega)).2.2.2.2.2.2.1
            have e2 : mvD C D q 3 q ≠ 2 := by
              rw [em]
              unfold lgD
              split
              · next zz =>
                have r := arD_row (C := C) (D := lgD0 C (up D 4 q (D 4 q - 1)) q) (l := q)
                omega
              · unfold lgD0
                rw [up_eq]
                omega
            omega
          · exact mo _ _ (Or.inl w)
        · rw [q4 g z, up_ne (by omega)]
        · rw [q2 _ _ (by omega), up_ne (by omega)]
        · rw [q2 _ _ (by omega), up_ne (by omega)]
end DAYX2

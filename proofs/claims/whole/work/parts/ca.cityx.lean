/-! ===== the class takes a city ===== -/
section CITYX
variable {L : Int → Int} {R R' F F' E E' : Int → Int → Int} {N : Nat} {Q : xQ} {B a m c fd tr fa pl k n t i j g x y z w h r p r0 p0 r1 p1 x0 x1 x2 x3 x4 x5 : Int} {C : Cy} {tp : Int → Int} {D : Int → Int → Int} {M H : Int → Int → Int → Int} {HN : Int → Int}
theorem clT_10 (h : clT B a L R) (hR : ∀ b j : Int, (b ≠ B + 212 ∨ j ≠ 10) → R' b j = R b j) : clT B a L R' := h.fS (cl_a h) ((hR _ _ (by omega)).trans (cl_2 h)) ((hR _ _ (by omega)).trans (cl_3 h)) (fun b j _ _ _ w => hR b j w)
theorem clT_swap (h : clT B a L R) : clT B (2 * B + 109 - a) L (up (up R B 2 (2 * B + 109 - a)) B 3 a) := by
  have ca := cl_a h
  have hp := cl_p h
  exact h.fS (by omega) (by rw [up_ne (by omega), up_eq]) (by rw [up_eq]; omega) (fun b j _ _ u _ => by rw [up_ne (by omega), up_ne (by omega)])
theorem cX_city (hT : clT B a L R) (hM : clM B a C tp fd tr fa pl D k M n H HN R F E) (hs : stW C tp fd tr D k M n H HN) (h1 : (0 ≤ x ∧ x ≤ fd) → (prs tp x).1.1 = 0 → ctW (prs tp x).2 → 0 < (prs tp x).2 0 0 0 → ∀ R' F' E' : Int → Int → Int, clT B (2 * B + 109 - a) L R' → clM B (2 * B + 109 - a) (prs tp x).2 tp 0 0 0 pl (dwD (prs tp x).2) 0 M 0 H HN R' F' E' → fX B R R' F F' E E' → Q ((prs tp x).2 0 0 0) (L, R', F', E', N)) (h0 : (0 ≤ x ∧ x ≤ fd) → (prs tp x).1.1 ≠ 0 → ∀ R' F' E' : Int → Int → Int, clT B a L R' → clM B a C tp 0 4 (prs tp x).1.1 (prs tp x).1.2 D k M n H HN R' F' E' → fX B R R' F F' E E' → Q (-1) (L, R', F', E', N)) (h3 : ¬ (0 ≤ x ∧ x ≤ fd) → qX B a 2 R R F (up F B 17 2) E E → Q (-1) (L, R, up F B 17 2, E, N)) : T_X8_city [B, x] (L, R, F, E, N) Q := by
  have pB := cl_p hT
  have ca := cl_a hT
  have pa : 0 ≤ a := by omega
  have h2 := cl_2 hT
  have hC := cx_c hM
  have hW := sw_w hs
  have hct := cl_ct hT
  have bn := sw_n hs
  have bk := sw_k hs
  have bf := sw_f hs
  have b0 := cw_0 hW
  have b1 := cw_1 hW
  have b2 := cw_2 hW
  have b3 := cw_3 hW
  have b4 := cw_4 hW
  have e1 := cx_1 hM
  by_cases hx : 0 ≤ x ∧ x ≤ fd
  · have r4 := cl_4 hT
    have r3 := cl_3 hT
    have r12 := cl_12 hT
    have hrd := cl_rd hT
    have hcs : ctT (2 * B + 109 - a) L R := by
      rcases ca with z | z
      · rw [z, show 2 * B + 109 - (B + 2) = B + 107 by omega]; exact cl_c2 hT
      · rw [z, show 2 * B + 109 - (B + 107) = B + 2 by omega]; exact cl_c1 hT
    have ht : ∀ i : Int, 0 ≤ i → i < x → E (B + 1) i = tp i := fun i u v => cx_t hM i u (by omega)
    have a1 : ∀ v : Int, up F B 1 0 B v = if v = 1 then 0 else F B v := fun v => by
      by_cases z : v = 1
      · rw [z, if_pos rfl]; exact up_eq
      · rw [if_neg z]; exact up_ne (by omega)
    have kf : ∀ F2 E2 : Int → Int → Int, rfX (B + 212) (2 * B + 109 - a) (up F B 1 0) F2 E E2 → (∀ b j : Int, (b < B + 212 ∨ B + 216 ≤ b) → (b < 2 * B + 109 - a ∨ 2 * B + 109 - a + 105 ≤ b) → (b ≠ B ∨ j ≠ 1) → F2 b j = F b j) ∧ F2 B 1 = 0 ∧ (∀ b j : Int, (b < B + 212 ∨ B + 216 ≤ b) → (b < 2 * B + 109 - a ∨ 2 * B + 109 - a + 105 ≤ b) → E2 b j = E b j) := fun F2 E2 hf => ⟨fun b j u v w => (hf b j (by omega) v).1.trans (up_ne (by omega)), (hf _ _ (by omega) (by omega)).1.trans up_eq, fun b j u v => (hf b j (by omega) v).2⟩
    have hR0 : ∀ b j : Int, (b ≠ B + 212 ∨ j ≠ 10) → up R (B + 212) 10 (2 * B + 109 - a) b j = R b j := fun b j z => up_ne z
    have hT1 : clT B a L (up R (B + 212) 10 (2 * B + 109 - a)) := clT_10 hT hR0
    obtain ⟨R1, hR1⟩ : ∃ R1 : Int → Int → Int, R1 = up R (B + 212) 10 (2 * B + 109 - a) := ⟨_, rfl⟩
    rw [← hR1] at hR0 hT1
    have s4 := cl_4 hT1
    have s3 := cl_3 hT1
    have s2 := cl_2 hT1
    have s12 := cl_12 hT1
    have key : ∀ K : xQ, ((prs tp x).1.1 = 0 → ctW (prs tp x).2 → 0 < (prs tp x).2 0 0 0 → ∀ F2 E2 : Int → Int → Int, ctM (2 * B + 109 - a) (prs tp x).2 F2 E2 → rfX (B + 212) (2 * B + 109 - a) (up F B 1 0) F2 E E2 → K 0 (L, R1, F2, E2, N)) → ((prs tp x).1.1 ≠ 0 → ∀ F2 E2 : Int → Int → Int, F2 (B + 212) 0 = (prs tp x).1.2 → rfX (B + 212) (2 * B + 109 - a) (up F B 1 0) F2 E E2 → K (prs tp x).1.1 (L, R1, F2, E2, N)) → T_X4_read [B + 212, 2 * B + 109 - a, x] (L, R, up F B 1 0, E, N) K := fun K g1 g0 => by
      rw [hR1] at g1 g0
      exact sX_read hrd hcs (by omega) (by omega) (by omega) hx.1 (by omega) ht (fun z F' E' a1 a2 a3 a4 => g1 z a2 a3 F' E' a1 a4) (fun z F' E' a1 a2 => g0 z F' E' a1 a2)
    by_cases hp : (prs tp x).1.1 = 0
    · have go1 : ∀ F2 E2 : Int → Int → Int, ctM (2 * B + 109 - a) (prs tp x).2 F2 E2 → ctW (prs tp x).2 → 0 < (prs tp x).2 0 0 0 → rfX (B + 212) (2 * B + 109 - a) (up F B 1 0) F2 E E2 → ∀ K : xQ, (∀ R' F' E' : Int → Int → Int, F' (2 * B + 109 - a) 0 = (prs tp x).2 0 0 0 → R' B 2 = 2 * B + 109 - a → (∀ F'' : Int → Int → Int, F'' = up F' B 17 0 → Q ((prs tp x).2 0 0 0) (L, R', F'', E', N)) → K 0 (L, R', F', E', N)) → T_X8_planAnew [B] (L, up (up R1 B 2 (2 * B + 109 - a)) B 3 a, up (up F2 B 15 0) (B + 309) 0 0, E2, N) K := fun F2 E2 c1 c2 c3 c4 K hK => by
        obtain ⟨f1, f2, f3⟩ := kf F2 E2 c4
        have hT2 : clT B (2 * B + 109 - a) L (up (up R1 B 2 (2 * B + 109 - a)) B 3 a) := clT_swap hT1
        have cr := cx_r hM
        have g : ∀ b j : Int, (b ≠ B ∨ j ≠ 15) → (b ≠ B + 309 ∨ j ≠ 0) → up (up F2 B 15 0) (B + 309) 0 0 b j = F2 b j := fun b j u v => by rw [up_ne v, up_ne u]
        refine cX_plan (n := 0) (H := H) (HN := HN) (M := M) (pl := pl) (tp := tp) (fd := 0) (fa := 0) hT2 c2 (c1.fa c2 (fun b j u v => g b j (by omega) (by omega)) (fun _ _ _ _ => rfl)) (by omega) ((g _ _ (by omega) (by omega)).trans f2) (fun i u v => by omega) (by rw [up_ne (by omega), up_eq]) ⟨up_eq, fun i u v => by omega⟩ ⟨(g _ _ (by omega) (by omega)).trans ((f1 _ _ (by omega) (by omega) (by omega)).trans cr.1), (g _ _ (by omega) (by omega)).trans ((f1 _ _ (by omega) (by omega) (by omega)).trans cr.2.1), (g _ _ (by omega) (by omega)).trans ((f1 _ _ (by omega) (by omega) (by omega)).trans cr.2.2.1), (g _ _ (by omega) (by omega)).trans ((f1 _ _ (by omega) (by omega) (by omega)).trans cr.2.2.2)⟩ (fun R' F' E' t1 t2 t3 t4 => ?_)
        refine hK R' F' E' (cm_0 t2) (cl_2 t1) (fun F'' z => ?_)
        rw [z]
        refine h1 hx hp c2 c3 R' _ E' t1 (t3 0 (by decide)) (fun b j u => ?_)
        obtain ⟨u1, u2, u3⟩ := t4 b j u
        exact ⟨by rw [u1, up_ne (by omega), up_ne (by omega)]; exact hR0 b j (by omega), by rw [up_ne (by omega), u2, g _ _ (by omega) (by omega)]; exact f1 b j (by omega) (by omega) (by omega), by rw [u3]; exact f3 b j (by omega) (by omega)⟩
      clear h1 h0 h3
      repeat' first
        | exact absurd hc (by decide)
        | with_reducible refine key _ (fun y1 y2 y3 F2 E2 c1 c4 => ?_) (fun z => absurd hp z)
        | simp (disch := omega) only [t_X8_city, ue_X8_city, zLg, zRf, zFq, zEl, zNz, zUf, zUe, zUr, zCe, zSn, gd_0, gd_1, gd_2, gd_3, gd_4, gd_5, gd_6, gd_7, gd_8, gd_9, gd_10, gd_11, gd_12, gd_13, gd_14, gd_15, gd_16, gd_17, gd_18, gd_19, se_0, se_1, se_2, se_3, se_4, se_5, se_6, se_7, se_8, se_9, se_10, se_11, se_12, se_13, se_14, se_15, se_16, se_17, se_18, se_19, e_const, e_load, e_store, e_iinc, e_dup, e_dup2, e_pop, e_iadd, e_isub, e_imul, e_ladd, e_lsub, e_lmul, e_iaddw, e_isubw, e_imulw, e_laddw, e_lsubw, e_lmulw, e_iand, e_ior, e_ishl, e_ishr, e_iushr, e_lcmp, e_imax, e_imin, e_idiv, e_irem, e_ldiv, e_lrem, e_i2l, e_i2b, e_l2i, e_i2c, e_getF, e_getR, e_putF, e_putR, e_putz, e_ald, e_aldR, e_ast, e_astb, e_astz, e_asta, e_len, e_acopy, e_new, e_newa, e_mna, e_this, e_room, e_call0, e_callv0, e_call1, e_callv1, e_inv1, e_invv1, e_call2, e_callv2, e_inv2, e_invv2, e_call3, e_callv3, e_inv3, e_invv3, e_call4, e_callv4, e_inv4, e_invv4, e_call5, e_callv5, e_inv5, e_invv5, e_call6, e_callv6, e_inv6, e_invv6, e_call7, e_callv7, e_inv7, e_invv7, e_call8, e_callv8, e_inv8, e_invv8, e_ret, e_retz, e_retc, e_retb, e_retv, e_skip, e_sco, e_tlen, e_tat, e_iz_eq0, e_iz_eq1, e_iz_ne0, e_iz_ne1, add0, sc_d, sc_t, inI_e, inL_e, up_eq, true_or, or_true, or_false, false_or, and_true, true_and, not_false_eq_true, Int.reduceAdd, Int.reduceSub, Int.reduceMul, Int.reduceNeg, e1, r4, r3]
        | with_reducible first | refine izl_lt (fun hc => ?_) (fun hc => ?_) | refine izl_ge (fun hc => ?_) (fun hc => ?_) | refine izl_eq (fun hc => ?_) (fun hc => ?_) | refine ic_ge (fun hc => ?_) (fun hc => ?_) | refine ic_lt (fun hc => ?_) (fun hc => ?_) | refine ic_ne (fun hc => ?_) (fun hc => ?_) | refine ic_eq (fun hc => ?_) (fun hc => ?_) | refine ic_le (fun hc => ?_) (fun hc => ?_) | refine ic_gt (fun hc => ?_) (fun hc => ?_) | refine iz_eq (fun hc => ?_) (fun hc => ?_) | refine iz_ne (fun hc => ?_) (fun hc => ?_) | refine iz_lt (fun hc => ?_) (fun hc => ?_) | refine iz_ge (fun hc => ?_) (fun hc => ?_) | refine iz_gt (fun hc => ?_) (fun hc => ?_) | refine iz_le (fun hc => ?_) (fun hc => ?_) | refine iz_nu (fun hc => ?_) (fun hc => ?_) | refine iz_nn (fun hc => ?_) (fun hc => ?_)
        | omega
        | (exfalso; omega)
      all_goals
        have u3 : up R1 B 2 (2 * B + 109 - a) B 3 = 2 * B + 109 - a := (up_ne (by omega)).trans s3
        have u12 : up (up R1 B 2 (2 * B + 109 - a)) B 3 a B 12 = B + 309 := by rw [up_ne (by omega), up_ne (by omega)]; exact s12
        repeat' first
          | exact absurd hc (by decide)
          | with_reducible refine go1 F2 E2 c1 y2 y3 c4 _ (fun R' F' E' q1 q2 q3 => ?_)
          | simp (disch := omega) only [ue_X8_grant, t_X8_grant, zLg, zRf, zFq, zEl, zNz, zUf, zUe, zUr, zCe, zSn, gd_0, gd_1, gd_2, gd_3, gd_4, gd_5, gd_6, gd_7, gd_8, gd_9, gd_10, gd_11, gd_12, gd_13, gd_14, gd_15, gd_16, gd_17, gd_18, gd_19, se_0, se_1, se_2, se_3, se_4, se_5, se_6, se_7, se_8, se_9, se_10, se_11, se_12, se_13, se_14, se_15, se_16, se_17, se_18, se_19, e_const, e_load, e_store, e_iinc, e_dup, e_dup2, e_pop, e_iadd, e_isub, e_imul, e_ladd, e_lsub, e_lmul, e_iaddw, e_isubw, e_imulw, e_laddw, e_lsubw, e_lmulw, e_iand, e_ior, e_ishl, e_ishr, e_iushr, e_lcmp, e_imax, e_imin, e_idiv, e_irem, e_ldiv, e_lrem, e_i2l, e_i2b, e_l2i, e_i2c, e_getF, e_getR, e_putF, e_putR, e_putz, e_ald, e_aldR, e_ast, e_astb, e_astz, e_asta, e_len, e_acopy, e_new, e_newa, e_mna, e_this, e_room, e_call0, e_callv0, e_call1, e_callv1, e_inv1, e_invv1, e_call2, e_callv2, e_inv2, e_invv2, e_call3, e_callv3, e_inv3, e_invv3, e_call4, e_callv4, e_inv4, e_invv4, e_call5, e_callv5, e_inv5, e_invv5, e_call6, e_callv6, e_inv6, e_invv6, e_call7, e_callv7, e_inv7, e_invv7, e_call8, e_callv8, e_inv8, e_invv8, e_ret, e_retz, e_retc, e_retb, e_retv, e_skip, e_sco, e_tlen, e_tat, e_iz_eq0, e_iz_eq1, e_iz_ne0, e_iz_ne1, add0, sc_d, sc_t, inI_e, inL_e, up_eq, true_or, or_true, or_false, false_or, and_true, true_and, not_false_eq_true, Int.reduceAdd, Int.reduceSub, Int.reduceMul, Int.reduceNeg, s2, s3, s12, u3, u12]
          | with_reducible first | refine izl_lt (fun hc => ?_) (fun hc => ?_) | refine izl_ge (fun hc => ?_) (fun hc => ?_) | refine izl_eq (fun hc => ?_) (fun hc => ?_) | refine ic_ge (fun hc => ?_) (fun hc => ?_) | refine ic_lt (fun hc => ?_) (fun hc => ?_) | refine ic_ne (fun hc => ?_) (fun hc => ?_) | refine ic_eq (fun hc => ?_) (fun hc => ?_) | refine ic_le (fun hc => ?_) (fun hc => ?_) | refine ic_gt (fun hc => ?_) (fun hc => ?_) | refine iz_eq (fun hc => ?_) (fun hc => ?_) | refine iz_ne (fun hc => ?_) (fun hc => ?_) | refine iz_lt (fun hc => ?_) (fun hc => ?_) | refine iz_ge (fun hc => ?_) (fun hc => ?_) | refine iz_gt (fun hc => ?_) (fun hc => ?_) | refine iz_le (fun hc => ?_) (fun hc => ?_) | refine iz_nu (fun hc => ?_) (fun hc => ?_) | refine iz_nn (fun hc => ?_) (fun hc => ?_)
          | omega
          | (exfalso; omega)
        all_goals
          try simp (disch := omega) only [ue_X8_grant, t_X8_grant, zLg, zRf, zFq, zEl, zNz, zUf, zUe, zUr, zCe, zSn, gd_0, gd_1, gd_2, gd_3, gd_4, gd_5, gd_6, gd_7, gd_8, gd_9, gd_10, gd_11, gd_12, gd_13, gd_14, gd_15, gd_16, gd_17, gd_18, gd_19, se_0, se_1, se_2, se_3, se_4, se_5, se_6, se_7, se_8, se_9, se_10, se_11, se_12, se_13, se_14, se_15, se_16, se_17, se_18, se_19, e_const, e_load, e_store, e_iinc, e_dup, e_dup2, e_pop, e_iadd, e_isub, e_imul, e_ladd, e_lsub, e_lmul, e_iaddw, e_isubw, e_imulw, e_laddw, e_lsubw, e_lmulw, e_iand, e_ior, e_ishl, e_ishr, e_iushr, e_lcmp, e_imax, e_imin, e_idiv, e_irem, e_ldiv, e_lrem, e_i2l, e_i2b, e_l2i, e_i2c, e_getF, e_getR, e_putF, e_putR, e_putz, e_ald, e_aldR, e_ast, e_astb, e_astz, e_asta, e_len, e_acopy, e_new, e_newa, e_mna, e_this, e_room, e_call0, e_callv0, e_call1, e_callv1, e_inv1, e_invv1, e_call2, e_callv2, e_inv2, e_invv2, e_call3, e_callv3, e_inv3, e_invv3, e_call4, e_callv4, e_inv4, e_invv4, e_call5, e_callv5, e_inv5, e_invv5, e_call6, e_callv6, e_inv6, e_invv6, e_call7, e_callv7, e_inv7, e_invv7, e_call8, e_callv8, e_inv8, e_invv8, e_ret, e_retz, e_retc, e_retb, e_retv, e_skip, e_sco, e_tlen, e_tat, e_iz_eq0, e_iz_eq1, e_iz_ne0, e_iz_ne1, add0, sc_d, sc_t, inI_e, inL_e, up_eq, true_or, or_true, or_false, false_or, and_true, true_and, not_false_eq_true, Int.reduceAdd, Int.reduceSub, Int.reduceMul, Int.reduceNeg, q1, q2]
          exact q3 _ rfl
    · have go0 : ∀ F2 E2 : Int → Int → Int, F2 (B + 212) 0 = (prs tp x).1.2 → rfX (B + 212) (2 * B + 109 - a) (up F B 1 0) F2 E E2 → ∀ F3 : Int → Int → Int, F3 = up (up (up F2 B 15 (prs tp x).1.1) B 16 (prs tp x).1.2) B 17 4 → Q (-1) (L, R1, F3, E2, N) := fun F2 E2 c1 c4 F3 z3 => by
        obtain ⟨f1, f2, f3⟩ := kf F2 E2 c4
        have g : ∀ b j : Int, (b ≠ B ∨ (j ≠ 15 ∧ j ≠ 16 ∧ j ≠ 17)) → F3 b j = F2 b j := fun b j u => by rw [z3, up_ne (by omega), up_ne (by omega), up_ne (by omega)]
        have qF : ∀ b j : Int, ((b < B + 212 ∨ B + 216 ≤ b) ∧ (b < 2 * B + 109 - a ∨ 2 * B + 109 - a + 105 ≤ b) ∧ (b ≠ B ∨ (j ≠ 1 ∧ j ≠ 15 ∧ j ≠ 16 ∧ j ≠ 17))) → F3 b j = F b j := fun b j u => (g b j (by omega)).trans (f1 b j (by omega) (by omega) (by omega))
        have qE : ∀ b j : Int, ((b < B + 212 ∨ B + 216 ≤ b) ∧ (b < 2 * B + 109 - a ∨ 2 * B + 109 - a + 105 ≤ b)) → E2 b j = E b j := fun b j u => f3 b j u.1 u.2
        have qR : ∀ b j : Int, (b ≠ B + 212 ∨ j ≠ 10) → R1 b j = R b j := hR0
        refine h0 hx hp R1 F3 E2 hT1 ⟨(cx_c hM).fa hW (fun b j u v => qF b j (by omega)) (fun b j u v => qE b j (by omega)), ((g _ _ (by omega)).trans f2), fun i u v => by omega, (by rw [z3, up_ne (by omega), up_ne (by omega), up_eq]), (by rw [z3, up_eq]), fun _ => (by rw [z3, up_ne (by omega), up_eq]), fun o u v => (cx_w hM o u v).fa (fun j => qF _ _ (by omega)) (fun j => qE _ _ (by omega)), fun z => (qR _ _ (by omega)).trans (cx_f hM z), (qR _ _ (by omega)).trans (cx_d8 hM), (qR _ _ (by omega)).trans (cx_d9 hM), (qF _ _ (by omega)).trans (cx_d0 hM), (qF _ _ (by omega)).trans (cx_d1 hM), fun z => (cx_d hM z).fa (fun j => qF _ _ (by omega)) (fun b j u v => qE _ _ (by omega)), (qF _ _ (by omega)).trans (cx_11 hM), fun i u v => ⟨(qR _ _ (by omega)).trans (cx_m hM i u v).1, (qR _ _ (by omega)).trans (cx_m hM i u v).2.1, (cx_m hM i u v).2.2.fa (fun j => qF _ _ (by omega)) (fun b j u v => qE _ _ (by omega))⟩, (cx_a hM).fa bn.2 (qF _ _ (by omega)) (fun b j u v => qE _ _ (by omega)), ⟨(qF _ _ (by omega)).trans (cx_r hM).1, (qF _ _ (by omega)).trans (cx_r hM).2.1, (qF _ _ (by omega)).trans (cx_r hM).2.2.1, (qF _ _ (by omega)).trans (cx_r hM).2.2.2⟩⟩ (fun b j u => ⟨hR0 b j (by omega), qF b j (by omega), qE b j (by omega)⟩)
      clear h1 h0 h3
      repeat' first
        | exact absurd hc (by decide)
        | with_reducible refine key _ (fun z => absurd z hp) (fun y1 F2 E2 c1 c4 => ?_)
        | simp (disch := omega) only [t_X8_city, ue_X8_city, zLg, zRf, zFq, zEl, zNz, zUf, zUe, zUr, zCe, zSn, gd_0, gd_1, gd_2, gd_3, gd_4, gd_5, gd_6, gd_7, gd_8, gd_9, gd_10, gd_11, gd_12, gd_13, gd_14, gd_15, gd_16, gd_17, gd_18, gd_19, se_0, se_1, se_2, se_3, se_4, se_5, se_6, se_7, se_8, se_9, se_10, se_11, se_12, se_13, se_14, se_15, se_16, se_17, se_18, se_19, e_const, e_load, e_store, e_iinc, e_dup, e_dup2, e_pop, e_iadd, e_isub, e_imul, e_ladd, e_lsub, e_lmul, e_iaddw, e_isubw, e_imulw, e_laddw, e_lsubw, e_lmulw, e_iand, e_ior, e_ishl, e_ishr, e_iushr, e_lcmp, e_imax, e_imin, e_idiv, e_irem, e_ldiv, e_lrem, e_i2l, e_i2b, e_l2i, e_i2c, e_getF, e_getR, e_putF, e_putR, e_putz, e_ald, e_aldR, e_ast, e_astb, e_astz, e_asta, e_len, e_acopy, e_new, e_newa, e_mna, e_this, e_room, e_call0, e_callv0, e_call1, e_callv1, e_inv1, e_invv1, e_call2, e_callv2, e_inv2, e_invv2, e_call3, e_callv3, e_inv3, e_invv3, e_call4, e_callv4, e_inv4, e_invv4, e_call5, e_callv5, e_inv5, e_invv5, e_call6, e_callv6, e_inv6, e_invv6, e_call7, e_callv7, e_inv7, e_invv7, e_call8, e_callv8, e_inv8, e_invv8, e_ret, e_retz, e_retc, e_retb, e_retv, e_skip, e_sco, e_tlen, e_tat, e_iz_eq0, e_iz_eq1, e_iz_ne0, e_iz_ne1, add0, sc_d, sc_t, inI_e, inL_e, up_eq, true_or, or_true, or_false, false_or, and_true, true_and, not_false_eq_true, Int.reduceAdd, Int.reduceSub, Int.reduceMul, Int.reduceNeg, e1, r4, r3]
        | with_reducible first | refine izl_lt (fun hc => ?_) (fun hc => ?_) | refine izl_ge (fun hc => ?_) (fun hc => ?_) | refine izl_eq (fun hc => ?_) (fun hc => ?_) | refine ic_ge (fun hc => ?_) (fun hc => ?_) | refine ic_lt (fun hc => ?_) (fun hc => ?_) | refine ic_ne (fun hc => ?_) (fun hc => ?_) | refine ic_eq (fun hc => ?_) (fun hc => ?_) | refine ic_le (fun hc => ?_) (fun hc => ?_) | refine ic_gt (fun hc => ?_) (fun hc => ?_) | refine iz_eq (fun hc => ?_) (fun hc => ?_) | refine iz_ne (fun hc => ?_) (fun hc => ?_) | refine iz_lt (fun hc => ?_) (fun hc => ?_) | refine iz_ge (fun hc => ?_) (fun hc => ?_) | refine iz_gt (fun hc => ?_) (fun hc => ?_) | refine iz_le (fun hc => ?_) (fun hc => ?_) | refine iz_nu (fun hc => ?_) (fun hc => ?_) | refine iz_nn (fun hc => ?_) (fun hc => ?_)
        | omega
        | (exfalso; omega)
      all_goals
        have u0 : up F2 B 15 (prs tp x).1.1 (B + 212) 0 = (prs tp x).1.2 := (up_ne (by omega)).trans c1
        repeat' first
          | exact absurd hc (by decide)
          | simp (disch := omega) only [ue_X8_refuse, t_X8_refuse, zLg, zRf, zFq, zEl, zNz, zUf, zUe, zUr, zCe, zSn, gd_0, gd_1, gd_2, gd_3, gd_4, gd_5, gd_6, gd_7, gd_8, gd_9, gd_10, gd_11, gd_12, gd_13, gd_14, gd_15, gd_16, gd_17, gd_18, gd_19, se_0, se_1, se_2, se_3, se_4, se_5, se_6, se_7, se_8, se_9, se_10, se_11, se_12, se_13, se_14, se_15, se_16, se_17, se_18, se_19, e_const, e_load, e_store, e_iinc, e_dup, e_dup2, e_pop, e_iadd, e_isub, e_imul, e_ladd, e_lsub, e_lmul, e_iaddw, e_isubw, e_imulw, e_laddw, e_lsubw, e_lmulw, e_iand, e_ior, e_ishl, e_ishr, e_iushr, e_lcmp, e_imax, e_imin, e_idiv, e_irem, e_ldiv, e_lrem, e_i2l, e_i2b, e_l2i, e_i2c, e_getF, e_getR, e_putF, e_putR, e_putz, e_ald, e_aldR, e_ast, e_astb, e_astz, e_asta, e_len, e_acopy, e_new, e_newa, e_mna, e_this, e_room, e_call0, e_callv0, e_call1, e_callv1, e_inv1, e_invv1, e_call2, e_callv2, e_inv2, e_invv2, e_call3, e_callv3, e_inv3, e_invv3, e_call4, e_callv4, e_inv4, e_invv4, e_call5, e_callv5, e_inv5, e_invv5, e_call6, e_callv6, e_inv6, e_invv6, e_call7, e_callv7, e_inv7, e_invv7, e_call8, e_callv8, e_inv8, e_invv8, e_ret, e_retz, e_retc, e_retb, e_retv, e_skip, e_sco, e_tlen, e_tat, e_iz_eq0, e_iz_eq1, e_iz_ne0, e_iz_ne1, add0, sc_d, sc_t, inI_e, inL_e, up_eq, true_or, or_true, or_false, false_or, and_true, true_and, not_false_eq_true, Int.reduceAdd, Int.reduceSub, Int.reduceMul, Int.reduceNeg, s4, u0]
          | with_reducible first | refine izl_lt (fun hc => ?_) (fun hc => ?_) | refine izl_ge (fun hc => ?_) (fun hc => ?_) | refine izl_eq (fun hc => ?_) (fun hc => ?_) | refine ic_ge (fun hc => ?_) (fun hc => ?_) | refine ic_lt (fun hc => ?_) (fun hc => ?_) | refine ic_ne (fun hc => ?_) (fun hc => ?_) | refine ic_eq (fun hc => ?_) (fun hc => ?_) | refine ic_le (fun hc => ?_) (fun hc => ?_) | refine ic_gt (fun hc => ?_) (fun hc => ?_) | refine iz_eq (fun hc => ?_) (fun hc => ?_) | refine iz_ne (fun hc => ?_) (fun hc => ?_) | refine iz_lt (fun hc => ?_) (fun hc => ?_) | refine iz_ge (fun hc => ?_) (fun hc => ?_) | refine iz_gt (fun hc => ?_) (fun hc => ?_) | refine iz_le (fun hc => ?_) (fun hc => ?_) | refine iz_nu (fun hc => ?_) (fun hc => ?_) | refine iz_nn (fun hc => ?_) (fun hc => ?_)
          | omega
          | (exfalso; omega)
        all_goals exact go0 F2 E2 c1 c4 _ rfl
  · have ok := h3 hx (qX.s (by decide))
    clear h1 h0 h3
    repeat' first
      | exact absurd hc (by decide)
      | simp (disch := omega) only [ub_X8_city_12, ue_X8_city, t_X8_city, ue_X8_refuse, t_X8_refuse, zLg, zRf, zFq, zEl, zNz, zUf, zUe, zUr, zCe, zSn, gd_0, gd_1, gd_2, gd_3, gd_4, gd_5, gd_6, gd_7, gd_8, gd_9, gd_10, gd_11, gd_12, gd_13, gd_14, gd_15, gd_16, gd_17, gd_18, gd_19, se_0, se_1, se_2, se_3, se_4, se_5, se_6, se_7, se_8, se_9, se_10, se_11, se_12, se_13, se_14, se_15, se_16, se_17, se_18, se_19, e_const, e_load, e_store, e_iinc, e_dup, e_dup2, e_pop, e_iadd, e_isub, e_imul, e_ladd, e_lsub, e_lmul, e_iaddw, e_isubw, e_imulw, e_laddw, e_lsubw, e_lmulw, e_iand, e_ior, e_ishl, e_ishr, e_iushr, e_lcmp, e_imax, e_imin, e_idiv, e_irem, e_ldiv, e_lrem, e_i2l, e_i2b, e_l2i, e_i2c, e_getF, e_getR, e_putF, e_putR, e_putz, e_ald, e_aldR, e_ast, e_astb, e_astz, e_asta, e_len, e_acopy, e_new, e_newa, e_mna, e_this, e_room, e_call0, e_callv0, e_call1, e_callv1, e_inv1, e_invv1, e_call2, e_callv2, e_inv2, e_invv2, e_call3, e_callv3, e_inv3, e_invv3, e_call4, e_callv4, e_inv4, e_invv4, e_call5, e_callv5, e_inv5, e_invv5, e_call6, e_callv6, e_inv6, e_invv6, e_call7, e_callv7, e_inv7, e_invv7, e_call8, e_callv8, e_inv8, e_invv8, e_ret, e_retz, e_retc, e_retb, e_retv, e_skip, e_sco, e_tlen, e_tat, e_iz_eq0, e_iz_eq1, e_iz_ne0, e_iz_ne1, add0, sc_d, sc_t, inI_e, inL_e, up_eq, true_or, or_true, or_false, false_or, and_true, true_and, not_false_eq_true, Int.reduceAdd, Int.reduceSub, Int.reduceMul, Int.reduceNeg, e1]
      | with_reducible first | refine izl_lt (fun hc => ?_) (fun hc => ?_) | refine izl_ge (fun hc => ?_) (fun hc => ?_) | refine izl_eq (fun hc => ?_) (fun hc => ?_) | refine ic_ge (fun hc => ?_) (fun hc => ?_) | refine ic_lt (fun hc => ?_) (fun hc => ?_) | refine ic_ne (fun hc => ?_) (fun hc => ?_) | refine ic_eq (fun hc => ?_) (fun hc => ?_) | refine ic_le (fun hc => ?_) (fun hc => ?_) | refine ic_gt (fun hc => ?_) (fun hc => ?_) | refine iz_eq (fun hc => ?_) (fun hc => ?_) | refine iz_ne (fun hc => ?_) (fun hc => ?_) | refine iz_lt (fun hc => ?_) (fun hc => ?_) | refine iz_ge (fun hc => ?_) (fun hc => ?_) | refine iz_gt (fun hc => ?_) (fun hc => ?_) | refine iz_le (fun hc => ?_) (fun hc => ?_) | refine iz_nu (fun hc => ?_) (fun hc => ?_) | refine iz_nn (fun hc => ?_) (fun hc => ?_)
      | omega
      | (exfalso; omega)
    all_goals exact ok
end CITYX

/-! ===== widen, close, dig, undo ===== -/
def tbC (C : Cy) (g : Int) : Int → Int → Int := fun q z => if q = g ∧ z = 6 then 1 else C 2 q z
def rwD (r p w h x y z : Int) : Int := if z = 0 then r else if z = 1 then p else if z = 2 then w else if z = 3 then h else if z = 4 then x else if z = 5 then y else 0
def tbD (C : Cy) (r p w h x y : Int) : Int → Int → Int := fun q z => if q = C 0 1 0 then rwD r p w h x y z else C 2 q z
theorem tbD_e {C : Cy} {r p w h x y z : Int} : tbD C r p w h x y (C 0 1 0) z = rwD r p w h x y z := if_pos rfl
theorem tbD_n {C : Cy} {r p w h x y q z : Int} (hq : q ≠ C 0 1 0) : tbD C r p w h x y q z = C 2 q z := if_neg hq
theorem tbC_e {C : Cy} {g : Int} : tbC C g g 6 = 1 := if_pos ⟨rfl, rfl⟩
theorem tbC_n {C : Cy} {g q z : Int} (hq : q ≠ g ∨ z ≠ 6) : tbC C g q z = C 2 q z := if_neg (by omega)
abbrev ok_widen (C : Cy) (g w h : Int) : Prop := (0 ≤ g ∧ g < C 0 1 0) ∧ (1 ≤ w ∧ w ≤ 99) ∧ (1 ≤ h ∧ h ≤ 99) ∧ C 2 g 6 = 0 ∧ (C 2 g 2 < w ∨ C 2 g 3 < h)
def rp_widen (C : Cy) (g w h : Int) : Int × Int := if 0 ≤ g ∧ g < C 0 1 0 then (if (1 ≤ w ∧ w ≤ 99) ∧ (1 ≤ h ∧ h ≤ 99) then (0, 5) else (0, 2)) else (0, 1)
abbrev ok_close (C : Cy) (g : Int) : Prop := (0 ≤ g ∧ g < C 0 1 0) ∧ C 2 g 6 = 0
def rp_close (C : Cy) (g : Int) : Int × Int := if 0 ≤ g ∧ g < C 0 1 0 then (0, 5) else (0, 1)
abbrev ok_dig (C : Cy) (r p w h x y : Int) : Prop := (0 ≤ r ∧ r + 1 < C 0 0 0) ∧ (0 ≤ p ∧ p < 12) ∧ (1 ≤ w ∧ w ≤ 99) ∧ (1 ≤ h ∧ h ≤ 99) ∧ (1 ≤ x ∧ x ≤ 9) ∧ (0 ≤ y ∧ y ≤ 99) ∧ C 0 1 0 < 11
def rp_dig (C : Cy) (r p w h x y : Int) : Int × Int := if (0 ≤ r ∧ r + 1 < C 0 0 0) ∧ (0 ≤ p ∧ p < 12) then (if (1 ≤ w ∧ w ≤ 99) ∧ (1 ≤ h ∧ h ≤ 99) ∧ (1 ≤ x ∧ x ≤ 9) ∧ (0 ≤ y ∧ y ≤ 99) then (-1, 3) else (-1, 2)) else (-1, 1)
theorem wd_W {C : Cy} (hW : ctW C) {g w h : Int} (hw : 1 ≤ w ∧ w ≤ 99) (hh : 1 ≤ h ∧ h ≤ 99) : ctW (unC C (wdC C g w h 2) (C 0 1 0)) := by
  have e : unC C (wdC C g w h 2) (C 0 1 0) = wdC C g w h := by
    have := unC_id (C := wdC C g w h)
    rw [wdC_ne (by omega)] at this
    rw [← this]
    funext x y z
    by_cases h2 : x = 2
    · rw [h2, unC_2, unC_2]
    · by_cases h0 : x = 0 ∧ y = 1 ∧ z = 0
      · rw [h0.1, h0.2.1, h0.2.2, unC_k, unC_k]
      · rw [unC_ne h2 (by omega), unC_ne h2 (by omega), wdC_ne (by omega)]
  rw [e]
  exact wdC_W hW hw.1 hw.2 hh.1 hh.2
theorem cl_W {C : Cy} (hW : ctW C) {g : Int} : ctW (unC C (tbC C g) (C 0 1 0)) := by
  refine unC_W hW (cw_1 hW).1 (cw_1 hW).2 (fun q a b => ?_) (fun q a b => ?_) (fun q a b => ?_) (fun q a b => ?_) (fun q a b => ?_) (fun q a b => ?_) (fun q a b => ?_)
  · rw [tbC_n (by omega)]; exact cw_g0 hW q a b
  · rw [tbC_n (by omega)]; exact cw_g1 hW q a b
  · rw [tbC_n (by omega)]; exact cw_g2 hW q a b
  · rw [tbC_n (by omega)]; exact cw_g3 hW q a b
  · rw [tbC_n (by omega)]; exact cw_g4 hW q a b
  · rw [tbC_n (by omega)]; exact cw_g5 hW q a b
  · by_cases z : q = g
    · rw [z, tbC_e]; exact Or.inr rfl
    · rw [tbC_n (by omega)]; exact cw_g6 hW q a b
theorem dg_W {C : Cy} (hW : ctW C) {r p w h x y : Int} (hok : ok_dig C r p w h x y) : ctW (unC C (tbD C r p w h x y) (C 0 1 0 + 1)) := by
  obtain ⟨o1, o2, o3, o4, o5, o6, o7⟩ := hok
  have b1 := cw_1 hW
  refine unC_W hW (by omega) (by omega) (fun q a b => ?_) (fun q a b => ?_) (fun q a b => ?_) (fun q a b => ?_) (fun q a b => ?_) (fun q a b => ?_) (fun q a b => ?_)
  all_goals by_cases z : q = C 0 1 0
  · rw [z, tbD_e]; exact o1
  · rw [tbD_n z]; exact cw_g0 hW q a (by omega)
  · rw [z, tbD_e]; exact o2
  · rw [tbD_n z]; exact cw_g1 hW q a (by omega)
  · rw [z, tbD_e]; exact o3
  · rw [tbD_n z]; exact cw_g2 hW q a (by omega)
  · rw [z, tbD_e]; exact o4
  · rw [tbD_n z]; exact cw_g3 hW q a (by omega)
  · rw [z, tbD_e]; exact o5
  · rw [tbD_n z]; exact cw_g4 hW q a (by omega)
  · rw [z, tbD_e]; exact o6
  · rw [tbD_n z]; exact cw_g5 hW q a (by omega)
  · rw [z, tbD_e]; exact Or.inl rfl
  · rw [tbD_n z]; exact cw_g6 hW q a (by omega)
section ACT
variable {L : Int → Int} {R R' F F' E E' : Int → Int → Int} {N : Nat} {Q : xQ} {B a m c fd tr fa pl k n t i j g x y z w h r p r0 p0 r1 p1 x0 x1 x2 x3 x4 x5 : Int} {C : Cy} {tp : Int → Int} {D : Int → Int → Int} {M H : Int → Int → Int → Int} {HN : Int → Int}
theorem cX_widen (hT : clT B a L R) (hM : clM B a C tp fd tr fa pl D k M n H HN R F E) (hs : stW C tp fd tr D k M n H HN) (h1 : (ok_widen C g w h) → ∀ R' F' E' : Int → Int → Int, clT B a L R' → clM B a (unC C (wdC C g w h 2) (C 0 1 0)) tp fd 0 fa pl (dwD (unC C (wdC C g w h 2) (C 0 1 0))) 0 M (n - shf n + 1) (kpH C n H) (kpN C n HN) R' F' E' → fX B R R' F F' E E' → Q 1 (L, R', F', E', N)) (h0 : ∀ (R' F' E' : Int → Int → Int) (v t : Int), ¬ (ok_widen C g w h) → (v, t) = rp_widen C g w h → qX B a t R R' F F' E E' → Q v (L, R', F', E', N)) : T_X8_widen [B, g, w, h] (L, R, F, E, N) Q := by
  have pB := cl_p hT
  have ca := cl_a hT
  have pa : 0 ≤ a := by omega
  have h2 := cl_2 hT
  have hC := cx_c hM
  have hW := sw_w hs
  have hct := cl_ct hT
  have bn := sw_n hs
  have bk := sw_k hs
  have bf := sw_f hs
  have b0 := cw_0 hW
  have b1 := cw_1 hW
  have b2 := cw_2 hW
  have b3 := cw_3 hW
  have b4 := cw_4 hW
  have r12 := cl_12 hT
  by_cases hg : 0 ≤ g ∧ g < C 0 1 0
  · have gr := ct_gr hct g hg.1 (by omega)
    have gl := ct_gl hct g hg.1 (by omega)
    have e2 := cm_g hC g 2 hg.1 hg.2 (by omega) (by omega)
    have e3 := cm_g hC g 3 hg.1 hg.2 (by omega) (by omega)
    have e6 := cm_g hC g 6 hg.1 hg.2 (by omega) (by omega)
    have c6 := cw_g6 hW g hg.1 hg.2
    by_cases hok : ok_widen C g w h
    · obtain ⟨-, ow, oh, oc, om⟩ := hok
      have hok : ok_widen C g w h := ⟨hg, ow, oh, oc, om⟩
      have sb := shf_b n bn.1 bn.2
      have fin : B_X8_widen_66 Q [B, g, w, h, a + 3 + g, 0] [1] (L, R, F, E, N) 0 0 := by
        repeat' first
          | exact absurd hc (by decide)
          | simp (disch := omega) only [ub_X8_widen_66, zLg, zRf, zFq, zEl, zNz, zUf, zUe, zUr, zCe, zSn, gd_0, gd_1, gd_2, gd_3, gd_4, gd_5, gd_6, gd_7, gd_8, gd_9, gd_10, gd_11, gd_12, gd_13, gd_14, gd_15, gd_16, gd_17, gd_18, gd_19, se_0, se_1, se_2, se_3, se_4, se_5, se_6, se_7, se_8, se_9, se_10, se_11, se_12, se_13, se_14, se_15, se_16, se_17, se_18, se_19, e_const, e_load, e_store, e_iinc, e_dup, e_dup2, e_pop, e_iadd, e_isub, e_imul, e_ladd, e_lsub, e_lmul, e_iaddw, e_isubw, e_imulw, e_laddw, e_lsubw, e_lmulw, e_iand, e_ior, e_ishl, e_ishr, e_iushr, e_lcmp, e_imax, e_imin, e_idiv, e_irem, e_ldiv, e_lrem, e_i2l, e_i2b, e_l2i, e_i2c, e_getF, e_getR, e_putF, e_putR, e_putz, e_ald, e_aldR, e_ast, e_astb, e_astz, e_asta, e_len, e_acopy, e_new, e_newa, e_mna, e_this, e_room, e_call0, e_callv0, e_call1, e_callv1, e_inv1, e_invv1, e_call2, e_callv2, e_inv2, e_invv2, e_call3, e_callv3, e_inv3, e_invv3, e_call4, e_callv4, e_inv4, e_invv4, e_call5, e_callv5, e_inv5, e_invv5, e_call6, e_callv6, e_inv6, e_invv6, e_call7, e_callv7, e_inv7, e_invv7, e_call8, e_callv8, e_inv8, e_invv8, e_ret, e_retz, e_retc, e_retb, e_retv, e_skip, e_sco, e_tlen, e_tat, e_iz_eq0, e_iz_eq1, e_iz_ne0, e_iz_ne1, add0, sc_d, sc_t, inI_e, inL_e, up_eq, true_or, or_true, or_false, false_or, and_true, true_and, not_false_eq_true, Int.reduceAdd, Int.reduceSub, Int.reduceMul, Int.reduceNeg, h2, r12, gl, e6]
          | with_reducible first | refine izl_lt (fun hc => ?_) (fun hc => ?_) | refine izl_ge (fun hc => ?_) (fun hc => ?_) | refine izl_eq (fun hc => ?_) (fun hc => ?_) | refine ic_ge (fun hc => ?_) (fun hc => ?_) | refine ic_lt (fun hc => ?_) (fun hc => ?_) | refine ic_ne (fun hc => ?_) (fun hc => ?_) | refine ic_eq (fun hc => ?_) (fun hc => ?_) | refine ic_le (fun hc => ?_) (fun hc => ?_) | refine ic_gt (fun hc => ?_) (fun hc => ?_) | refine iz_eq (fun hc => ?_) (fun hc => ?_) | refine iz_ne (fun hc => ?_) (fun hc => ?_) | refine iz_lt (fun hc => ?_) (fun hc => ?_) | refine iz_ge (fun hc => ?_) (fun hc => ?_) | refine iz_gt (fun hc => ?_) (fun hc => ?_) | refine iz_le (fun hc => ?_) (fun hc => ?_) | refine iz_nu (fun hc => ?_) (fun hc => ?_) | refine iz_nn (fun hc => ?_) (fun hc => ?_)
          | omega
          | (exfalso; omega)
        refine sX_keep (cl_ac hT) hct (by omega) (cx_a hM).1 bn.1 bn.2 hg.1 (by omega) (fun E2 k1 k2 k3 F2 k4 k5 => ?_)
        have e2' : E2 (a + 3 + g) 2 = C 2 g 2 := (k1 _ _ (by omega)).trans e2
        have e3' : E2 (a + 3 + g) 3 = C 2 g 3 := (k1 _ _ (by omega)).trans e3
        simp (disch := omega) only [ue_X8_enlarge, t_X8_enlarge, zLg, zRf, zFq, zEl, zNz, zUf, zUe, zUr, zCe, zSn, gd_0, gd_1, gd_2, gd_3, gd_4, gd_5, gd_6, gd_7, gd_8, gd_9, gd_10, gd_11, gd_12, gd_13, gd_14, gd_15, gd_16, gd_17, gd_18, gd_19, se_0, se_1, se_2, se_3, se_4, se_5, se_6, se_7, se_8, se_9, se_10, se_11, se_12, se_13, se_14, se_15, se_16, se_17, se_18, se_19, e_const, e_load, e_store, e_iinc, e_dup, e_dup2, e_pop, e_iadd, e_isub, e_imul, e_ladd, e_lsub, e_lmul, e_iaddw, e_isubw, e_imulw, e_laddw, e_lsubw, e_lmulw, e_iand, e_ior, e_ishl, e_ishr, e_iushr, e_lcmp, e_imax, e_imin, e_idiv, e_irem, e_ldiv, e_lrem, e_i2l, e_i2b, e_l2i, e_i2c, e_getF, e_getR, e_putF, e_putR, e_putz, e_ald, e_aldR, e_ast, e_astb, e_astz, e_asta, e_len, e_acopy, e_new, e_newa, e_mna, e_this, e_room, e_call0, e_callv0, e_call1, e_callv1, e_inv1, e_invv1, e_call2, e_callv2, e_inv2, e_invv2, e_call3, e_callv3, e_inv3, e_invv3, e_call4, e_callv4, e_inv4, e_invv4, e_call5, e_callv5, e_inv5, e_invv5, e_call6, e_callv6, e_inv6, e_invv6, e_call7, e_callv7, e_inv7, e_invv7, e_call8, e_callv8, e_inv8, e_invv8, e_ret, e_retz, e_retc, e_retb, e_retv, e_skip, e_sco, e_tlen, e_tat, e_iz_eq0, e_iz_eq1, e_iz_ne0, e_iz_ne1, add0, sc_d, sc_t, inI_e, inL_e, up_eq, true_or, or_true, or_false, false_or, and_true, true_and, not_false_eq_true, Int.reduceAdd, Int.reduceSub, Int.reduceMul, Int.reduceNeg, up_ne, gl, e2', e3']
        have qA : ∀ b j : Int, B + 309 ≤ b → up (up E2 (a + 3 + g) 2 (max (C 2 g 2) w)) (a + 3 + g) 3 (max (C 2 g 3) h) b j = E2 b j := fun b j z => by rw [up_ne (by omega), up_ne (by omega)]
        have qE : ∀ b j : Int, ((b < a + 3 ∨ a + 14 ≤ b) ∧ (b < B + 311 ∨ B + 321 ≤ b)) → up (up E2 (a + 3 + g) 2 (max (C 2 g 2) w)) (a + 3 + g) 3 (max (C 2 g 3) h) b j = E b j := fun b j z => by rw [up_ne (by omega), up_ne (by omega)]; exact k1 b j (by omega)
        have qT : ∀ q z : Int, 0 ≤ q → q < C 0 1 0 → 0 ≤ z → z < 7 → up (up E2 (a + 3 + g) 2 (max (C 2 g 2) w)) (a + 3 + g) 3 (max (C 2 g 3) h) (a + 3 + q) z = wdC C g w h 2 q z := fun q z q0 q1 z0 z1 => by
          by_cases a3 : q = g ∧ z = 3
          · rw [a3.1, a3.2, up_eq, wdC_3]
          · by_cases a2 : q = g ∧ z = 2
            · rw [a2.1, a2.2, up_ne (by omega), up_eq, wdC_2]
            · rw [up_ne (by omega), up_ne (by omega), wdC_ne (by omega), k1 _ _ (by omega)]
              exact cm_g hC q z q0 q1 z0 z1
        generalize up (up E2 (a + 3 + g) 2 (max (C 2 g 2) w)) (a + 3 + g) 3 (max (C 2 g 3) h) = E3 at *
        have qF : ∀ b j : Int, (b ≠ B + 309 ∨ j ≠ 0) → F2 b j = F b j := k4
        have hC2 : ctM a (unC C (wdC C g w h 2) (C 0 1 0)) F2 E3 := ctM_un hC hW ((qF _ _ (by omega)).trans (cm_1 hC)) (fun q z q0 q1 z0 z1 => ?_) (fun b j u v z => qF b j (by omega)) (fun b j u v z => qE b j (by omega))
        · have hac : acX (B + 309) (unC C (wdC C g w h 2) (C 0 1 0)) (n - shf n + 1) (kpH C n H) (kpN C n HN) F2 E3 := acX_keep (cx_a hM) bn.1 bn.2 hg.1 (by omega) k5 (fun i j u v x y => by rw [qA _ _ (by omega)]; exact k2 i j u v x y) (by rw [qA _ _ (by omega)]; exact k3.1) (by rw [qA _ _ (by omega), k3.2.1]; exact cm_1 hC) (fun hg => by rw [qA _ _ (by omega), k3.2.2.1]; exact cm_g hC _ 2 (by omega) hg (by omega) (by omega)) (fun hg => by rw [qA _ _ (by omega), k3.2.2.2.1]; exact cm_g hC _ 3 (by omega) hg (by omega) (by omega)) (fun hg => by rw [qA _ _ (by omega), k3.2.2.2.2]; exact cm_g hC _ 6 (by omega) hg (by omega) (by omega)) (fun q z q0 q1 z0 z1 hz => wdC_ne (by omega))
          refine cX_plan (M := M) (pl := pl) hT (wd_W hW ow oh) hC2 (by omega) ((qF _ _ (by omega)).trans (cx_1 hM)) (fun i u v => (qE _ _ (by omega)).trans (cx_t hM i u v)) ((qF _ _ (by omega)).trans (cx_15 hM)) hac ⟨(qF _ _ (by omega)).trans (cx_r hM).1, (qF _ _ (by omega)).trans (cx_r hM).2.1, (qF _ _ (by omega)).trans (cx_r hM).2.2.1, (qF _ _ (by omega)).trans (cx_r hM).2.2.2⟩ (fun R4 F4 E4 p1 p2 p3 p4 => ?_)
          repeat' first
            | exact absurd hc (by decide)
            | simp (disch := omega) only [ue_X8_allow, t_X8_allow, zLg, zRf, zFq, zEl, zNz, zUf, zUe, zUr, zCe, zSn, gd_0, gd_1, gd_2, gd_3, gd_4, gd_5, gd_6, gd_7, gd_8, gd_9, gd_10, gd_11, gd_12, gd_13, gd_14, gd_15, gd_16, gd_17, gd_18, gd_19, se_0, se_1, se_2, se_3, se_4, se_5, se_6, se_7, se_8, se_9, se_10, se_11, se_12, se_13, se_14, se_15, se_16, se_17, se_18, se_19, e_const, e_load, e_store, e_iinc, e_dup, e_dup2, e_pop, e_iadd, e_isub, e_imul, e_ladd, e_lsub, e_lmul, e_iaddw, e_isubw, e_imulw, e_laddw, e_lsubw, e_lmulw, e_iand, e_ior, e_ishl, e_ishr, e_iushr, e_lcmp, e_imax, e_imin, e_idiv, e_irem, e_ldiv, e_lrem, e_i2l, e_i2b, e_l2i, e_i2c, e_getF, e_getR, e_putF, e_putR, e_putz, e_ald, e_aldR, e_ast, e_astb, e_astz, e_asta, e_len, e_acopy, e_new, e_newa, e_mna, e_this, e_room, e_call0, e_callv0, e_call1, e_callv1, e_inv1, e_invv1, e_call2, e_callv2, e_inv2, e_invv2, e_call3, e_callv3, e_inv3, e_invv3, e_call4, e_callv4, e_inv4, e_invv4, e_call5, e_callv5, e_inv5, e_invv5, e_call6, e_callv6, e_inv6, e_invv6, e_call7, e_callv7, e_inv7, e_invv7, e_call8, e_callv8, e_inv8, e_invv8, e_ret, e_retz, e_retc, e_retb, e_retv, e_skip, e_sco, e_tlen, e_tat, e_iz_eq0, e_iz_eq1, e_iz_ne0, e_iz_ne1, add0, sc_d, sc_t, inI_e, inL_e, up_eq, true_or, or_true, or_false, false_or, and_true, true_and, not_false_eq_true, Int.reduceAdd, Int.reduceSub, Int.reduceMul, Int.reduceNeg]
            | with_reducible first | refine izl_lt (fun hc => ?_) (fun hc => ?_) | refine izl_ge (fun hc => ?_) (fun hc => ?_) | refine izl_eq (fun hc => ?_) (fun hc => ?_) | refine ic_ge (fun hc => ?_) (fun hc => ?_) | refine ic_lt (fun hc => ?_) (fun hc => ?_) | refine ic_ne (fun hc => ?_) (fun hc => ?_) | refine ic_eq (fun hc => ?_) (fun hc => ?_) | refine ic_le (fun hc => ?_) (fun hc => ?_) | refine ic_gt (fun hc => ?_) (fun hc => ?_) | refine iz_eq (fun hc => ?_) (fun hc => ?_) | refine iz_ne (fun hc => ?_) (fun hc => ?_) | refine iz_lt (fun hc => ?_) (fun hc => ?_) | refine iz_ge (fun hc => ?_) (fun hc => ?_) | refine iz_gt (fun hc => ?_) (fun hc => ?_) | refine iz_le (fun hc => ?_) (fun hc => ?_) | refine iz_nu (fun hc => ?_) (fun hc => ?_) | refine iz_nn (fun hc => ?_) (fun hc => ?_)
            | omega
            | (exfalso; omega)
          all_goals exact h1 hok R4 _ E4 p1 (p3 0 (by omega)) (fun b j z => ⟨(p4 b j z).1, by rw [up_ne (by omega), (p4 b j z).2.1]; exact qF b j (by omega), by rw [(p4 b j z).2.2]; exact qE b j (by omega)⟩)
        · exact qT q z q0 q1 z0 z1
      repeat' first
        | exact absurd hc (by decide)
        | with_reducible refine sX_isGate pB h2 pa hC (fun q1 q2 => ?_) (fun q => ?_)
        | with_reducible refine sX_isSize (fun q3 q4 => ?_) (fun q8 => ?_)
        | simp (disch := omega) only [t_X8_widen, ue_X8_widen, ub_X8_widen_61, zLg, zRf, zFq, zEl, zNz, zUf, zUe, zUr, zCe, zSn, gd_0, gd_1, gd_2, gd_3, gd_4, gd_5, gd_6, gd_7, gd_8, gd_9, gd_10, gd_11, gd_12, gd_13, gd_14, gd_15, gd_16, gd_17, gd_18, gd_19, se_0, se_1, se_2, se_3, se_4, se_5, se_6, se_7, se_8, se_9, se_10, se_11, se_12, se_13, se_14, se_15, se_16, se_17, se_18, se_19, e_const, e_load, e_store, e_iinc, e_dup, e_dup2, e_pop, e_iadd, e_isub, e_imul, e_ladd, e_lsub, e_lmul, e_iaddw, e_isubw, e_imulw, e_laddw, e_lsubw, e_lmulw, e_iand, e_ior, e_ishl, e_ishr, e_iushr, e_lcmp, e_imax, e_imin, e_idiv, e_irem, e_ldiv, e_lrem, e_i2l, e_i2b, e_l2i, e_i2c, e_getF, e_getR, e_putF, e_putR, e_putz, e_ald, e_aldR, e_ast, e_astb, e_astz, e_asta, e_len, e_acopy, e_new, e_newa, e_mna, e_this, e_room, e_call0, e_callv0, e_call1, e_callv1, e_inv1, e_invv1, e_call2, e_callv2, e_inv2, e_invv2, e_call3, e_callv3, e_inv3, e_invv3, e_call4, e_callv4, e_inv4, e_invv4, e_call5, e_callv5, e_inv5, e_invv5, e_call6, e_callv6, e_inv6, e_invv6, e_call7, e_callv7, e_inv7, e_invv7, e_call8, e_callv8, e_inv8, e_invv8, e_ret, e_retz, e_retc, e_retb, e_retv, e_skip, e_sco, e_tlen, e_tat, e_iz_eq0, e_iz_eq1, e_iz_ne0, e_iz_ne1, add0, sc_d, sc_t, inI_e, inL_e, up_eq, true_or, or_true, or_false, false_or, and_true, true_and, not_false_eq_true, Int.reduceAdd, Int.reduceSub, Int.reduceMul, Int.reduceNeg, h2, r12, ct_6 hct, ct_l2 hct, gr, gl, e2, e3, e6]
        | with_reducible first | refine izl_lt (fun hc => ?_) (fun hc => ?_) | refine izl_ge (fun hc => ?_) (fun hc => ?_) | refine izl_eq (fun hc => ?_) (fun hc => ?_) | refine ic_ge (fun hc => ?_) (fun hc => ?_) | refine ic_lt (fun hc => ?_) (fun hc => ?_) | refine ic_ne (fun hc => ?_) (fun hc => ?_) | refine ic_eq (fun hc => ?_) (fun hc => ?_) | refine ic_le (fun hc => ?_) (fun hc => ?_) | refine ic_gt (fun hc => ?_) (fun hc => ?_) | refine iz_eq (fun hc => ?_) (fun hc => ?_) | refine iz_ne (fun hc => ?_) (fun hc => ?_) | refine iz_lt (fun hc => ?_) (fun hc => ?_) | refine iz_ge (fun hc => ?_) (fun hc => ?_) | refine iz_gt (fun hc => ?_) (fun hc => ?_) | refine iz_le (fun hc => ?_) (fun hc => ?_) | refine iz_nu (fun hc => ?_) (fun hc => ?_) | refine iz_nn (fun hc => ?_) (fun hc => ?_)
        | omega
        | (exfalso; omega)
      all_goals exact fin
    · have hno := hok
      repeat' first
        | exact absurd hc (by decide)
        | with_reducible refine sX_isGate pB h2 pa hC (fun q1 q2 => ?_) (fun q => ?_)
        | with_reducible refine sX_isSize (fun q3 q4 => ?_) (fun q8 => ?_)
        | simp (disch := omega) only [t_X8_widen, ue_X8_widen, ub_X8_widen_66, ub_X8_widen_61, ub_X8_widen_28, ub_X8_widen_81, ue_X8_deny, t_X8_deny, zLg, zRf, zFq, zEl, zNz, zUf, zUe, zUr, zCe, zSn, gd_0, gd_1, gd_2, gd_3, gd_4, gd_5, gd_6, gd_7, gd_8, gd_9, gd_10, gd_11, gd_12, gd_13, gd_14, gd_15, gd_16, gd_17, gd_18, gd_19, se_0, se_1, se_2, se_3, se_4, se_5, se_6, se_7, se_8, se_9, se_10, se_11, se_12, se_13, se_14, se_15, se_16, se_17, se_18, se_19, e_const, e_load, e_store, e_iinc, e_dup, e_dup2, e_pop, e_iadd, e_isub, e_imul, e_ladd, e_lsub, e_lmul, e_iaddw, e_isubw, e_imulw, e_laddw, e_lsubw, e_lmulw, e_iand, e_ior, e_ishl, e_ishr, e_iushr, e_lcmp, e_imax, e_imin, e_idiv, e_irem, e_ldiv, e_lrem, e_i2l, e_i2b, e_l2i, e_i2c, e_getF, e_getR, e_putF, e_putR, e_putz, e_ald, e_aldR, e_ast, e_astb, e_astz, e_asta, e_len, e_acopy, e_new, e_newa, e_mna, e_this, e_room, e_call0, e_callv0, e_call1, e_callv1, e_inv1, e_invv1, e_call2, e_callv2, e_inv2, e_invv2, e_call3, e_callv3, e_inv3, e_invv3, e_call4, e_callv4, e_inv4, e_invv4, e_call5, e_callv5, e_inv5, e_invv5, e_call6, e_callv6, e_inv6, e_invv6, e_call7, e_callv7, e_inv7, e_invv7, e_call8, e_callv8, e_inv8, e_invv8, e_ret, e_retz, e_retc, e_retb, e_retv, e_skip, e_sco, e_tlen, e_tat, e_iz_eq0, e_iz_eq1, e_iz_ne0, e_iz_ne1, add0, sc_d, sc_t, inI_e, inL_e, up_eq, true_or, or_true, or_false, false_or, and_true, true_and, not_false_eq_true, Int.reduceAdd, Int.reduceSub, Int.reduceMul, Int.reduceNeg, h2, r12, ct_6 hct, ct_l2 hct, gr, gl, e2, e3, e6]
        | with_reducible first | refine izl_lt (fun hc => ?_) (fun hc => ?_) | refine izl_ge (fun hc => ?_) (fun hc => ?_) | refine izl_eq (fun hc => ?_) (fun hc => ?_) | refine ic_ge (fun hc => ?_) (fun hc => ?_) | refine ic_lt (fun hc => ?_) (fun hc => ?_) | refine ic_ne (fun hc => ?_) (fun hc => ?_) | refine ic_eq (fun hc => ?_) (fun hc => ?_) | refine ic_le (fun hc => ?_) (fun hc => ?_) | refine ic_gt (fun hc => ?_) (fun hc => ?_) | refine iz_eq (fun hc => ?_) (fun hc => ?_) | refine iz_ne (fun hc => ?_) (fun hc => ?_) | refine iz_lt (fun hc => ?_) (fun hc => ?_) | refine iz_ge (fun hc => ?_) (fun hc => ?_) | refine iz_gt (fun hc => ?_) (fun hc => ?_) | refine iz_le (fun hc => ?_) (fun hc => ?_) | refine iz_nu (fun hc => ?_) (fun hc => ?_) | refine iz_nn (fun hc => ?_) (fun hc => ?_)
        | omega
        | (exfalso; omega)
      all_goals exact h0 _ _ _ _ _ (by omega) (by simp (disch := omega) only [rp_widen, if_pos, if_neg]) (qX.s (by omega))
  · have hno : ¬ ok_widen C g w h := fun y => hg y.1
    repeat' first
      | exact absurd hc (by decide)
      | with_reducible refine sX_isGate pB h2 pa hC (fun q1 q2 => ?_) (fun q => ?_)
      | simp (disch := omega) only [t_X8_widen, ue_X8_widen, ue_X8_deny, t_X8_deny, zLg, zRf, zFq, zEl, zNz, zUf, zUe, zUr, zCe, zSn, gd_0, gd_1, gd_2, gd_3, gd_4, gd_5, gd_6, gd_7, gd_8, gd_9, gd_10, gd_11, gd_12, gd_13, gd_14, gd_15, gd_16, gd_17, gd_18, gd_19, se_0, se_1, se_2, se_3, se_4, se_5, se_6, se_7, se_8, se_9, se_10, se_11, se_12, se_13, se_14, se_15, se_16, se_17, se_18, se_19, e_const, e_load, e_store, e_iinc, e_dup, e_dup2, e_pop, e_iadd, e_isub, e_imul, e_ladd, e_lsub, e_lmul, e_iaddw, e_isubw, e_imulw, e_laddw, e_lsubw, e_lmulw, e_iand, e_ior, e_ishl, e_ishr, e_iushr, e_lcmp, e_imax, e_imin, e_idiv, e_irem, e_ldiv, e_lrem, e_i2l, e_i2b, e_l2i, e_i2c, e_getF, e_getR, e_putF, e_putR, e_putz, e_ald, e_aldR, e_ast, e_astb, e_astz, e_asta, e_len, e_acopy, e_new, e_newa, e_mna, e_this, e_room, e_call0, e_callv0, e_call1, e_callv1, e_inv1, e_invv1, e_call2, e_callv2, e_inv2, e_invv2, e_call3, e_callv3, e_inv3, e_invv3, e_call4, e_callv4, e_inv4, e_invv4, e_call5, e_callv5, e_inv5, e_invv5, e_call6, e_callv6, e_inv6, e_invv6, e_call7, e_callv7, e_inv7, e_invv7, e_call8, e_callv8, e_inv8, e_invv8, e_ret, e_retz, e_retc, e_retb, e_retv, e_skip, e_sco, e_tlen, e_tat, e_iz_eq0, e_iz_eq1, e_iz_ne0, e_iz_ne1, add0, sc_d, sc_t, inI_e, inL_e, up_eq, true_or, or_true, or_false, false_or, and_true, true_and, not_false_eq_true, Int.reduceAdd, Int.reduceSub, Int.reduceMul, Int.reduceNeg]
      | with_reducible first | refine izl_lt (fun hc => ?_) (fun hc => ?_) | refine izl_ge (fun hc => ?_) (fun hc => ?_) | refine izl_eq (fun hc => ?_) (fun hc => ?_) | refine ic_ge (fun hc => ?_) (fun hc => ?_) | refine ic_lt (fun hc => ?_) (fun hc => ?_) | refine ic_ne (fun hc => ?_) (fun hc => ?_) | refine ic_eq (fun hc => ?_) (fun hc => ?_) | refine ic_le (fun hc => ?_) (fun hc => ?_) | refine ic_gt (fun hc => ?_) (fun hc => ?_) | refine iz_eq (fun hc => ?_) (fun hc => ?_) | refine iz_ne (fun hc => ?_) (fun hc => ?_) | refine iz_lt (fun hc => ?_) (fun hc => ?_) | refine iz_ge (fun hc => ?_) (fun hc => ?_) | refine iz_gt (fun hc => ?_) (fun hc => ?_) | refine iz_le (fun hc => ?_) (fun hc => ?_) | refine iz_nu (fun hc => ?_) (fun hc => ?_) | refine iz_nn (fun hc => ?_) (fun hc => ?_)
      | omega
      | (exfalso; omega)
    all_goals exact h0 _ _ _ _ _ hno (by simp (disch := omega) only [rp_widen, if_pos, if_neg]) (qX.s (by omega))
theorem cX_close (hT : clT B a L R) (hM : clM B a C tp fd tr fa pl D k M n H HN R F E) (hs : stW C tp fd tr D k M n H HN) (h1 : (ok_close C g) → ∀ R' F' E' : Int → Int → Int, clT B a L R' → clM B a (unC C (tbC C g) (C 0 1 0)) tp fd 0 fa pl (dwD (unC C (tbC C g) (C 0 1 0))) 0 M (n - shf n + 1) (kpH C n H) (kpN C n HN) R' F' E' → fX B R R' F F' E E' → Q 1 (L, R', F', E', N)) (h0 : ∀ (R' F' E' : Int → Int → Int) (v t : Int), ¬ (ok_close C g) → (v, t) = rp_close C g → qX B a t R R' F F' E E' → Q v (L, R', F', E', N)) : T_X8_close [B, g] (L, R, F, E, N) Q := by
  have pB := cl_p hT
  have ca := cl_a hT
  have pa : 0 ≤ a := by omega
  have h2 := cl_2 hT
  have hC := cx_c hM
  have hW := sw_w hs
  have hct := cl_ct hT
  have bn := sw_n hs
  have bk := sw_k hs
  have bf := sw_f hs
  have b0 := cw_0 hW
  have b1 := cw_1 hW
  have b2 := cw_2 hW
  have b3 := cw_3 hW
  have b4 := cw_4 hW
  have r12 := cl_12 hT
  by_cases hg : 0 ≤ g ∧ g < C 0 1 0
  · have gr := ct_gr hct g hg.1 (by omega)
    have gl := ct_gl hct g hg.1 (by omega)
    have e6 := cm_g hC g 6 hg.1 hg.2 (by omega) (by omega)
    have c6 := cw_g6 hW g hg.1 hg.2
    by_cases hok : ok_close C g
    · have oc := hok.2
      have sb := shf_b n bn.1 bn.2
      repeat' first
        | exact absurd hc (by decide)
        | with_reducible refine sX_isGate pB h2 pa hC (fun q1 q2 => ?_) (fun q => ?_)
        | simp (disch := omega) only [t_X8_close, ue_X8_close, zLg, zRf, zFq, zEl, zNz, zUf, zUe, zUr, zCe, zSn, gd_0, gd_1, gd_2, gd_3, gd_4, gd_5, gd_6, gd_7, gd_8, gd_9, gd_10, gd_11, gd_12, gd_13, gd_14, gd_15, gd_16, gd_17, gd_18, gd_19, se_0, se_1, se_2, se_3, se_4, se_5, se_6, se_7, se_8, se_9, se_10, se_11, se_12, se_13, se_14, se_15, se_16, se_17, se_18, se_19, e_const, e_load, e_store, e_iinc, e_dup, e_dup2, e_pop, e_iadd, e_isub, e_imul, e_ladd, e_lsub, e_lmul, e_iaddw, e_isubw, e_imulw, e_laddw, e_lsubw, e_lmulw, e_iand, e_ior, e_ishl, e_ishr, e_iushr, e_lcmp, e_imax, e_imin, e_idiv, e_irem, e_ldiv, e_lrem, e_i2l, e_i2b, e_l2i, e_i2c, e_getF, e_getR, e_putF, e_putR, e_putz, e_ald, e_aldR, e_ast, e_astb, e_astz, e_asta, e_len, e_acopy, e_new, e_newa, e_mna, e_this, e_room, e_call0, e_callv0, e_call1, e_callv1, e_inv1, e_invv1, e_call2, e_callv2, e_inv2, e_invv2, e_call3, e_callv3, e_inv3, e_invv3, e_call4, e_callv4, e_inv4, e_invv4, e_call5, e_callv5, e_inv5, e_invv5, e_call6, e_callv6, e_inv6, e_invv6, e_call7, e_callv7, e_inv7, e_invv7, e_call8, e_callv8, e_inv8, e_invv8, e_ret, e_retz, e_retc, e_retb, e_retv, e_skip, e_sco, e_tlen, e_tat, e_iz_eq0, e_iz_eq1, e_iz_ne0, e_iz_ne1, add0, sc_d, sc_t, inI_e, inL_e, up_eq, true_or, or_true, or_false, false_or, and_true, true_and, not_false_eq_true, Int.reduceAdd, Int.reduceSub, Int.reduceMul, Int.reduceNeg, h2, r12, ct_6 hct, ct_l2 hct, gr, gl, e6]
        | with_reducible first | refine izl_lt (fun hc => ?_) (fun hc => ?_) | refine izl_ge (fun hc => ?_) (fun hc => ?_) | refine izl_eq (fun hc => ?_) (fun hc => ?_) | refine ic_ge (fun hc => ?_) (fun hc => ?_) | refine ic_lt (fun hc => ?_) (fun hc => ?_) | refine ic_ne (fun hc => ?_) (fun hc => ?_) | refine ic_eq (fun hc => ?_) (fun hc => ?_) | refine ic_le (fun hc => ?_) (fun hc => ?_) | refine ic_gt (fun hc => ?_) (fun hc => ?_) | refine iz_eq (fun hc => ?_) (fun hc => ?_) | refine iz_ne (fun hc => ?_) (fun hc => ?_) | refine iz_lt (fun hc => ?_) (fun hc => ?_) | refine iz_ge (fun hc => ?_) (fun hc => ?_) | refine iz_gt (fun hc => ?_) (fun hc => ?_) | refine iz_le (fun hc => ?_) (fun hc => ?_) | refine iz_nu (fun hc => ?_) (fun hc => ?_) | refine iz_nn (fun hc => ?_) (fun hc => ?_)
        | omega
        | (exfalso; omega)
      refine sX_keep (cl_ac hT) hct (by omega) (cx_a hM).1 bn.1 bn.2 hg.1 (by omega) (fun E2 k1 k2 k3 F2 k4 k5 => ?_)
      simp (disch := omega) only [zLg, zRf, zFq, zEl, zNz, zUf, zUe, zUr, zCe, zSn, gd_0, gd_1, gd_2, gd_3, gd_4, gd_5, gd_6, gd_7, gd_8, gd_9, gd_10, gd_11, gd_12, gd_13, gd_14, gd_15, gd_16, gd_17, gd_18, gd_19, se_0, se_1, se_2, se_3, se_4, se_5, se_6, se_7, se_8, se_9, se_10, se_11, se_12, se_13, se_14, se_15, se_16, se_17, se_18, se_19, e_const, e_load, e_store, e_iinc, e_dup, e_dup2, e_pop, e_iadd, e_isub, e_imul, e_ladd, e_lsub, e_lmul, e_iaddw, e_isubw, e_imulw, e_laddw, e_lsubw, e_lmulw, e_iand, e_ior, e_ishl, e_ishr, e_iushr, e_lcmp, e_imax, e_imin, e_idiv, e_irem, e_ldiv, e_lrem, e_i2l, e_i2b, e_l2i, e_i2c, e_getF, e_getR, e_putF, e_putR, e_putz, e_ald, e_aldR, e_ast, e_astb, e_astz, e_asta, e_len, e_acopy, e_new, e_newa, e_mna, e_this, e_room, e_call0, e_callv0, e_call1, e_callv1, e_inv1, e_invv1, e_call2, e_callv2, e_inv2, e_invv2, e_call3, e_callv3, e_inv3, e_invv3, e_call4, e_callv4, e_inv4, e_invv4, e_call5, e_callv5, e_inv5, e_invv5, e_call6, e_callv6, e_inv6, e_invv6, e_call7, e_callv7, e_inv7, e_invv7, e_call8, e_callv8, e_inv8, e_invv8, e_ret, e_retz, e_retc, e_retb, e_retv, e_skip, e_sco, e_tlen, e_tat, e_iz_eq0, e_iz_eq1, e_iz_ne0, e_iz_ne1, add0, sc_d, sc_t, inI_e, inL_e, up_eq, true_or, or_true, or_false, false_or, and_true, true_and, not_false_eq_true, Int.reduceAdd, Int.reduceSub, Int.reduceMul, Int.reduceNeg, h2, ct_6 hct, ct_l2 hct, gr, gl]
      have qA : ∀ b j : Int, B + 309 ≤ b → up E2 (a + 3 + g) 6 1 b j = E2 b j := fun b j z => by rw [up_ne (by omega)]
      have qE : ∀ b j : Int, ((b < a + 3 ∨ a + 14 ≤ b) ∧ (b < B + 311 ∨ B + 321 ≤ b)) → up E2 (a + 3 + g) 6 1 b j = E b j := fun b j z => by rw [up_ne (by omega)]; exact k1 b j (by omega)
      have qT : ∀ q z : Int, 0 ≤ q → q < C 0 1 0 → 0 ≤ z → z < 7 → up E2 (a + 3 + g) 6 1 (a + 3 + q) z = tbC C g q z := fun q z q0 q1 z0 z1 => by
        by_cases a3 : q = g ∧ z = 6
        · rw [a3.1, a3.2, up_eq, tbC_e]
        · rw [up_ne (by omega), tbC_n (by omega), k1 _ _ (by omega)]
          exact cm_g hC q z q0 q1 z0 z1
      generalize up E2 (a + 3 + g) 6 1 = E3 at *
      have qF : ∀ b j : Int, (b ≠ B + 309 ∨ j ≠ 0) → F2 b j = F b j := k4
      have hC2 : ctM a (unC C (tbC C g) (C 0 1 0)) F2 E3 := ctM_un hC hW ((qF _ _ (by omega)).trans (cm_1 hC)) (fun q z q0 q1 z0 z1 => ?_) (fun b j u v z => qF b j (by omega)) (fun b j u v z => qE b j (by omega))
      · have hac : acX (B + 309) (unC C (tbC C g) (C 0 1 0)) (n - shf n + 1) (kpH C n H) (kpN C n HN) F2 E3 := acX_keep (cx_a hM) bn.1 bn.2 hg.1 (by omega) k5 (fun i j u v x y => by rw [qA _ _ (by omega)]; exact k2 i j u v x y) (by rw [qA _ _ (by omega)]; exact k3.1) (by rw [qA _ _ (by omega), k3.2.1]; exact cm_1 hC) (fun hg => by rw [qA _ _ (by omega), k3.2.2.1]; exact cm_g hC _ 2 (by omega) hg (by omega) (by omega)) (fun hg => by rw [qA _ _ (by omega), k3.2.2.2.1]; exact cm_g hC _ 3 (by omega) hg (by omega) (by omega)) (fun hg => by rw [qA _ _ (by omega), k3.2.2.2.2]; exact cm_g hC _ 6 (by omega) hg (by omega) (by omega)) (fun q z q0 q1 z0 z1 hz => tbC_n (by omega))
        refine cX_plan (M := M) (pl := pl) hT (cl_W hW) hC2 (by omega) ((qF _ _ (by omega)).trans (cx_1 hM)) (fun i u v => (qE _ _ (by omega)).trans (cx_t hM i u v)) ((qF _ _ (by omega)).trans (cx_15 hM)) hac ⟨(qF _ _ (by omega)).trans (cx_r hM).1, (qF _ _ (by omega)).trans (cx_r hM).2.1, (qF _ _ (by omega)).trans (cx_r hM).2.2.1, (qF _ _ (by omega)).trans (cx_r hM).2.2.2⟩ (fun R4 F4 E4 p1 p2 p3 p4 => ?_)
        repeat' first
          | exact absurd hc (by decide)
          | simp (disch := omega) only [ue_X8_allow, t_X8_allow, zLg, zRf, zFq, zEl, zNz, zUf, zUe, zUr, zCe, zSn, gd_0, gd_1, gd_2, gd_3, gd_4, gd_5, gd_6, gd_7, gd_8, gd_9, gd_10, gd_11, gd_12, gd_13, gd_14, gd_15, gd_16, gd_17, gd_18, gd_19, se_0, se_1, se_2, se_3, se_4, se_5, se_6, se_7, se_8, se_9, se_10, se_11, se_12, se_13, se_14, se_15, se_16, se_17, se_18, se_19, e_const, e_load, e_store, e_iinc, e_dup, e_dup2, e_pop, e_iadd, e_isub, e_imul, e_ladd, e_lsub, e_lmul, e_iaddw, e_isubw, e_imulw, e_laddw, e_lsubw, e_lmulw, e_iand, e_ior, e_ishl, e_ishr, e_iushr, e_lcmp, e_imax, e_imin, e_idiv, e_irem, e_ldiv, e_lrem, e_i2l, e_i2b, e_l2i, e_i2c, e_getF, e_getR, e_putF, e_putR, e_putz, e_ald, e_aldR, e_ast, e_astb, e_astz, e_asta, e_len, e_acopy, e_new, e_newa, e_mna, e_this, e_room, e_call0, e_callv0, e_call1, e_callv1, e_inv1, e_invv1, e_call2, e_callv2, e_inv2, e_invv2, e_call3, e_callv3, e_inv3, e_invv3, e_call4, e_callv4, e_inv4, e_invv4, e_call5, e_callv5, e_inv5, e_invv5, e_call6, e_callv6, e_inv6, e_invv6, e_call7, e_callv7, e_inv7, e_invv7, e_call8, e_callv8, e_inv8, e_invv8, e_ret, e_retz, e_retc, e_retb, e_retv, e_skip, e_sco, e_tlen, e_tat, e_iz_eq0, e_iz_eq1, e_iz_ne0, e_iz_ne1, add0, sc_d, sc_t, inI_e, inL_e, up_eq, true_or, or_true, or_false, false_or, and_true, true_and, not_false_eq_true, Int.reduceAdd, Int.reduceSub, Int.reduceMul, Int.reduceNeg]
          | with_reducible first | refine izl_lt (fun hc => ?_) (fun hc => ?_) | refine izl_ge (fun hc => ?_) (fun hc => ?_) | refine izl_eq (fun hc => ?_) (fun hc => ?_) | refine ic_ge (fun hc => ?_) (fun hc => ?_) | refine ic_lt (fun hc => ?_) (fun hc => ?_) | refine ic_ne (fun hc => ?_) (fun hc => ?_) | refine ic_eq (fun hc => ?_) (fun hc => ?_) | refine ic_le (fun hc => ?_) (fun hc => ?_) | refine ic_gt (fun hc => ?_) (fun hc => ?_) | refine iz_eq (fun hc => ?_) (fun hc => ?_) | refine iz_ne (fun hc => ?_) (fun hc => ?_) | refine iz_lt (fun hc => ?_) (fun hc => ?_) | refine iz_ge (fun hc => ?_) (fun hc => ?_) | refine iz_gt (fun hc => ?_) (fun hc => ?_) | refine iz_le (fun hc => ?_) (fun hc => ?_) | refine iz_nu (fun hc => ?_) (fun hc => ?_) | refine iz_nn (fun hc => ?_) (fun hc => ?_)
          | omega
          | (exfalso; omega)
        all_goals exact h1 hok R4 _ E4 p1 (p3 0 (by omega)) (fun b j z => ⟨(p4 b j z).1, by rw [up_ne (by omega), (p4 b j z).2.1]; exact qF b j (by omega), by rw [(p4 b j z).2.2]; exact qE b j (by omega)⟩)
      · exact qT q z q0 q1 z0 z1
    · have hno := hok
      repeat' first
        | exact absurd hc (by decide)
        | with_reducible refine sX_isGate pB h2 pa hC (fun q1 q2 => ?_) (fun q => ?_)
        | simp (disch := omega) only [t_X8_close, ue_X8_close, ue_X8_deny, t_X8_deny, zLg, zRf, zFq, zEl, zNz, zUf, zUe, zUr, zCe, zSn, gd_0, gd_1, gd_2, gd_3, gd_4, gd_5, gd_6, gd_7, gd_8, gd_9, gd_10, gd_11, gd_12, gd_13, gd_14, gd_15, gd_16, gd_17, gd_18, gd_19, se_0, se_1, se_2, se_3, se_4, se_5, se_6, se_7, se_8, se_9, se_10, se_11, se_12, se_13, se_14, se_15, se_16, se_17, se_18, se_19, e_const, e_load, e_store, e_iinc, e_dup, e_dup2, e_pop, e_iadd, e_isub, e_imul, e_ladd, e_lsub, e_lmul, e_iaddw, e_isubw, e_imulw, e_laddw, e_lsubw, e_lmulw, e_iand, e_ior, e_ishl, e_ishr, e_iushr, e_lcmp, e_imax, e_imin, e_idiv, e_irem, e_ldiv, e_lrem, e_i2l, e_i2b, e_l2i, e_i2c, e_getF, e_getR, e_putF, e_putR, e_putz, e_ald, e_aldR, e_ast, e_astb, e_astz, e_asta, e_len, e_acopy, e_new, e_newa, e_mna, e_this, e_room, e_call0, e_callv0, e_call1, e_callv1, e_inv1, e_invv1, e_call2, e_callv2, e_inv2, e_invv2, e_call3, e_callv3, e_inv3, e_invv3, e_call4, e_callv4, e_inv4, e_invv4, e_call5, e_callv5, e_inv5, e_invv5, e_call6, e_callv6, e_inv6, e_invv6, e_call7, e_callv7, e_inv7, e_invv7, e_call8, e_callv8, e_inv8, e_invv8, e_ret, e_retz, e_retc, e_retb, e_retv, e_skip, e_sco, e_tlen, e_tat, e_iz_eq0, e_iz_eq1, e_iz_ne0, e_iz_ne1, add0, sc_d, sc_t, inI_e, inL_e, up_eq, true_or, or_true, or_false, false_or, and_true, true_and, not_false_eq_true, Int.reduceAdd, Int.reduceSub, Int.reduceMul, Int.reduceNeg, h2, r12, ct_6 hct, ct_l2 hct, gr, gl, e6]
        | with_reducible first | refine izl_lt (fun hc => ?_) (fun hc => ?_) | refine izl_ge (fun hc => ?_) (fun hc => ?_) | refine izl_eq (fun hc => ?_) (fun hc => ?_) | refine ic_ge (fun hc => ?_) (fun hc => ?_) | refine ic_lt (fun hc => ?_) (fun hc => ?_) | refine ic_ne (fun hc => ?_) (fun hc => ?_) | refine ic_eq (fun hc => ?_) (fun hc => ?_) | refine ic_le (fun hc => ?_) (fun hc => ?_) | refine ic_gt (fun hc => ?_) (fun hc => ?_) | refine iz_eq (fun hc => ?_) (fun hc => ?_) | refine iz_ne (fun hc => ?_) (fun hc => ?_) | refine iz_lt (fun hc => ?_) (fun hc => ?_) | refine iz_ge (fun hc => ?_) (fun hc => ?_) | refine iz_gt (fun hc => ?_) (fun hc => ?_) | refine iz_le (fun hc => ?_) (fun hc => ?_) | refine iz_nu (fun hc => ?_) (fun hc => ?_) | refine iz_nn (fun hc => ?_) (fun hc => ?_)
        | omega
        | (exfalso; omega)
      all_goals exact h0 _ _ _ _ _ (by omega) (by simp (disch := omega) only [rp_close, if_pos, if_neg]) (qX.s (by omega))
  · have hno : ¬ ok_close C g := fun y => hg y.1
    repeat' first
      | exact absurd hc (by decide)
      | with_reducible refine sX_isGate pB h2 pa hC (fun q1 q2 => ?_) (fun q => ?_)
      | simp (disch := omega) only [t_X8_close, ue_X8_close, ue_X8_deny, t_X8_deny, zLg, zRf, zFq, zEl, zNz, zUf, zUe, zUr, zCe, zSn, gd_0, gd_1, gd_2, gd_3, gd_4, gd_5, gd_6, gd_7, gd_8, gd_9, gd_10, gd_11, gd_12, gd_13, gd_14, gd_15, gd_16, gd_17, gd_18, gd_19, se_0, se_1, se_2, se_3, se_4, se_5, se_6, se_7, se_8, se_9, se_10, se_11, se_12, se_13, se_14, se_15, se_16, se_17, se_18, se_19, e_const, e_load, e_store, e_iinc, e_dup, e_dup2, e_pop, e_iadd, e_isub, e_imul, e_ladd, e_lsub, e_lmul, e_iaddw, e_isubw, e_imulw, e_laddw, e_lsubw, e_lmulw, e_iand, e_ior, e_ishl, e_ishr, e_iushr, e_lcmp, e_imax, e_imin, e_idiv, e_irem, e_ldiv, e_lrem, e_i2l, e_i2b, e_l2i, e_i2c, e_getF, e_getR, e_putF, e_putR, e_putz, e_ald, e_aldR, e_ast, e_astb, e_astz, e_asta, e_len, e_acopy, e_new, e_newa, e_mna, e_this, e_room, e_call0, e_callv0, e_call1, e_callv1, e_inv1, e_invv1, e_call2, e_callv2, e_inv2, e_invv2, e_call3, e_callv3, e_inv3, e_invv3, e_call4, e_callv4, e_inv4, e_invv4, e_call5, e_callv5, e_inv5, e_invv5, e_call6, e_callv6, e_inv6, e_invv6, e_call7, e_callv7, e_inv7, e_invv7, e_call8, e_callv8, e_inv8, e_invv8, e_ret, e_retz, e_retc, e_retb, e_retv, e_skip, e_sco, e_tlen, e_tat, e_iz_eq0, e_iz_eq1, e_iz_ne0, e_iz_ne1, add0, sc_d, sc_t, inI_e, inL_e, up_eq, true_or, or_true, or_false, false_or, and_true, true_and, not_false_eq_true, Int.reduceAdd, Int.reduceSub, Int.reduceMul, Int.reduceNeg]
      | with_reducible first | refine izl_lt (fun hc => ?_) (fun hc => ?_) | refine izl_ge (fun hc => ?_) (fun hc => ?_) | refine izl_eq (fun hc => ?_) (fun hc => ?_) | refine ic_ge (fun hc => ?_) (fun hc => ?_) | refine ic_lt (fun hc => ?_) (fun hc => ?_) | refine ic_ne (fun hc => ?_) (fun hc => ?_) | refine ic_eq (fun hc => ?_) (fun hc => ?_) | refine ic_le (fun hc => ?_) (fun hc => ?_) | refine ic_gt (fun hc => ?_) (fun hc => ?_) | refine iz_eq (fun hc => ?_) (fun hc => ?_) | refine iz_ne (fun hc => ?_) (fun hc => ?_) | refine iz_lt (fun hc => ?_) (fun hc => ?_) | refine iz_ge (fun hc => ?_) (fun hc => ?_) | refine iz_gt (fun hc => ?_) (fun hc => ?_) | refine iz_le (fun hc => ?_) (fun hc => ?_) | refine iz_nu (fun hc => ?_) (fun hc => ?_) | refine iz_nn (fun hc => ?_) (fun hc => ?_)
      | omega
      | (exfalso; omega)
    all_goals exact h0 _ _ _ _ _ hno (by simp (disch := omega) only [rp_close, if_pos, if_neg]) (qX.s (by omega))
theorem cX_dig (hT : clT B a L R) (hM : clM B a C tp fd tr fa pl D k M n H HN R F E) (hs : stW C tp fd tr D k M n H HN) (h1 : (ok_dig C r p w h x y) → ∀ R' F' E' : Int → Int → Int, clT B a L R' → clM B a (unC C (tbD C r p w h x y) (C 0 1 0 + 1)) tp fd 0 fa pl (dwD (unC C (tbD C r p w h x y) (C 0 1 0 + 1))) 0 M (n - shf n + 1) (kpH C n H) (kpN C n HN) R' F' E' → fX B R R' F F' E E' → Q (C 0 1 0) (L, R', F', E', N)) (h0 : ∀ (R' F' E' : Int → Int → Int) (v t : Int), ¬ (ok_dig C r p w h x y) → (v, t) = rp_dig C r p w h x y → qX B a t R R' F F' E E' → Q v (L, R', F', E', N)) : T_X8_dig [B, r, p, w, h, x, y] (L, R, F, E, N) Q := by
  have pB := cl_p hT
  have ca := cl_a hT
  have pa : 0 ≤ a := by omega
  have h2 := cl_2 hT
  have hC := cx_c hM
  have hW := sw_w hs
  have hct := cl_ct hT
  have bn := sw_n hs
  have bk := sw_k hs
  have bf := sw_f hs
  have b0 := cw_0 hW
  have b1 := cw_1 hW
  have b2 := cw_2 hW
  have b3 := cw_3 hW
  have b4 := cw_4 hW
  have r12 := cl_12 hT
  have e1 := cm_1 hC
  by_cases hok : ok_dig C r p w h x y
  · have hok' := hok
    obtain ⟨o1, o2, o3, o4, o5, o6, o7⟩ := hok'
    have gr := ct_gr hct (C 0 1 0) b1.1 o7
    have gl := ct_gl hct (C 0 1 0) b1.1 o7
    have sb := shf_b n bn.1 bn.2
    repeat' first
      | exact absurd hc (by decide)
      | with_reducible refine sX_isSpot pB h2 pa hC (fun q5 q6 => ?_) (fun q7 => ?_)
      | with_reducible refine sX_isRing pB h2 pa hC (fun q5 q6 => ?_) (fun q7 => ?_)
      | with_reducible refine sX_isSize (fun q3 q4 => ?_) (fun q8 => ?_)
      | simp (disch := omega) only [t_X8_dig, ue_X8_dig, ub_X8_dig_70, zLg, zRf, zFq, zEl, zNz, zUf, zUe, zUr, zCe, zSn, gd_0, gd_1, gd_2, gd_3, gd_4, gd_5, gd_6, gd_7, gd_8, gd_9, gd_10, gd_11, gd_12, gd_13, gd_14, gd_15, gd_16, gd_17, gd_18, gd_19, se_0, se_1, se_2, se_3, se_4, se_5, se_6, se_7, se_8, se_9, se_10, se_11, se_12, se_13, se_14, se_15, se_16, se_17, se_18, se_19, e_const, e_load, e_store, e_iinc, e_dup, e_dup2, e_pop, e_iadd, e_isub, e_imul, e_ladd, e_lsub, e_lmul, e_iaddw, e_isubw, e_imulw, e_laddw, e_lsubw, e_lmulw, e_iand, e_ior, e_ishl, e_ishr, e_iushr, e_lcmp, e_imax, e_imin, e_idiv, e_irem, e_ldiv, e_lrem, e_i2l, e_i2b, e_l2i, e_i2c, e_getF, e_getR, e_putF, e_putR, e_putz, e_ald, e_aldR, e_ast, e_astb, e_astz, e_asta, e_len, e_acopy, e_new, e_newa, e_mna, e_this, e_room, e_call0, e_callv0, e_call1, e_callv1, e_inv1, e_invv1, e_call2, e_callv2, e_inv2, e_invv2, e_call3, e_callv3, e_inv3, e_invv3, e_call4, e_callv4, e_inv4, e_invv4, e_call5, e_callv5, e_inv5, e_invv5, e_call6, e_callv6, e_inv6, e_invv6, e_call7, e_callv7, e_inv7, e_invv7, e_call8, e_callv8, e_inv8, e_invv8, e_ret, e_retz, e_retc, e_retb, e_retv, e_skip, e_sco, e_tlen, e_tat, e_iz_eq0, e_iz_eq1, e_iz_ne0, e_iz_ne1, add0, sc_d, sc_t, inI_e, inL_e, up_eq, true_or, or_true, or_false, false_or, and_true, true_and, not_false_eq_true, Int.reduceAdd, Int.reduceSub, Int.reduceMul, Int.reduceNeg, h2, r12, e1]
      | with_reducible first | refine izl_lt (fun hc => ?_) (fun hc => ?_) | refine izl_ge (fun hc => ?_) (fun hc => ?_) | refine izl_eq (fun hc => ?_) (fun hc => ?_) | refine ic_ge (fun hc => ?_) (fun hc => ?_) | refine ic_lt (fun hc => ?_) (fun hc => ?_) | refine ic_ne (fun hc => ?_) (fun hc => ?_) | refine ic_eq (fun hc => ?_) (fun hc => ?_) | refine ic_le (fun hc => ?_) (fun hc => ?_) | refine ic_gt (fun hc => ?_) (fun hc => ?_) | refine iz_eq (fun hc => ?_) (fun hc => ?_) | refine iz_ne (fun hc => ?_) (fun hc => ?_) | refine iz_lt (fun hc => ?_) (fun hc => ?_) | refine iz_ge (fun hc => ?_) (fun hc => ?_) | refine iz_gt (fun hc => ?_) (fun hc => ?_) | refine iz_le (fun hc => ?_) (fun hc => ?_) | refine iz_nu (fun hc => ?_) (fun hc => ?_) | refine iz_nn (fun hc => ?_) (fun hc => ?_)
      | omega
      | (exfalso; omega)
    refine sX_keep (cl_ac hT) hct (by omega) (cx_a hM).1 bn.1 bn.2 b1.1 o7 (fun E2 k1 k2 k3 F2 k4 k5 => ?_)
    simp (disch := omega) only [zLg, zRf, zFq, zEl, zNz, zUf, zUe, zUr, zCe, zSn, gd_0, gd_1, gd_2, gd_3, gd_4, gd_5, gd_6, gd_7, gd_8, gd_9, gd_10, gd_11, gd_12, gd_13, gd_14, gd_15, gd_16, gd_17, gd_18, gd_19, se_0, se_1, se_2, se_3, se_4, se_5, se_6, se_7, se_8, se_9, se_10, se_11, se_12, se_13, se_14, se_15, se_16, se_17, se_18, se_19, e_const, e_load, e_store, e_iinc, e_dup, e_dup2, e_pop, e_iadd, e_isub, e_imul, e_ladd, e_lsub, e_lmul, e_iaddw, e_isubw, e_imulw, e_laddw, e_lsubw, e_lmulw, e_iand, e_ior, e_ishl, e_ishr, e_iushr, e_lcmp, e_imax, e_imin, e_idiv, e_irem, e_ldiv, e_lrem, e_i2l, e_i2b, e_l2i, e_i2c, e_getF, e_getR, e_putF, e_putR, e_putz, e_ald, e_aldR, e_ast, e_astb, e_astz, e_asta, e_len, e_acopy, e_new, e_newa, e_mna, e_this, e_room, e_call0, e_callv0, e_call1, e_callv1, e_inv1, e_invv1, e_call2, e_callv2, e_inv2, e_invv2, e_call3, e_callv3, e_inv3, e_invv3, e_call4, e_callv4, e_inv4, e_invv4, e_call5, e_callv5, e_inv5, e_invv5, e_call6, e_callv6, e_inv6, e_invv6, e_call7, e_callv7, e_inv7, e_invv7, e_call8, e_callv8, e_inv8, e_invv8, e_ret, e_retz, e_retc, e_retb, e_retv, e_skip, e_sco, e_tlen, e_tat, e_iz_eq0, e_iz_eq1, e_iz_ne0, e_iz_ne1, add0, sc_d, sc_t, inI_e, inL_e, up_eq, true_or, or_true, or_false, false_or, and_true, true_and, not_false_eq_true, Int.reduceAdd, Int.reduceSub, Int.reduceMul, Int.reduceNeg, h2, ct_6 hct, ct_l2 hct, gr, gl]
    have qA : ∀ b j : Int, B + 309 ≤ b → (up (up (up (up (up (up (up E2 (a + 3 + C 0 1 0) 0 r) (a + 3 + C 0 1 0) 1 p) (a + 3 + C 0 1 0) 2 w) (a + 3 + C 0 1 0) 3 h) (a + 3 + C 0 1 0) 4 x) (a + 3 + C 0 1 0) 5 y) (a + 3 + C 0 1 0) 6 0) b j = E2 b j := fun b j z => by simp (disch := omega) only [up_ne]
    have qE : ∀ b j : Int, ((b < a + 3 ∨ a + 14 ≤ b) ∧ (b < B + 311 ∨ B + 321 ≤ b)) → (up (up (up (up (up (up (up E2 (a + 3 + C 0 1 0) 0 r) (a + 3 + C 0 1 0) 1 p) (a + 3 + C 0 1 0) 2 w) (a + 3 + C 0 1 0) 3 h) (a + 3 + C 0 1 0) 4 x) (a + 3 + C 0 1 0) 5 y) (a + 3 + C 0 1 0) 6 0) b j = E b j := fun b j z => by simp (disch := omega) only [up_ne]; exact k1 b j (by omega)
    have qT : ∀ q z : Int, 0 ≤ q → q < C 0 1 0 + 1 → 0 ≤ z → z < 7 → (up (up (up (up (up (up (up E2 (a + 3 + C 0 1 0) 0 r) (a + 3 + C 0 1 0) 1 p) (a + 3 + C 0 1 0) 2 w) (a + 3 + C 0 1 0) 3 h) (a + 3 + C 0 1 0) 4 x) (a + 3 + C 0 1 0) 5 y) (a + 3 + C 0 1 0) 6 0) (a + 3 + q) z = tbD C r p w h x y q z := fun q z q0 q1 z0 z1 => by
      by_cases a3 : q = C 0 1 0
      · rw [a3, tbD_e]
        have hz : z = 0 ∨ z = 1 ∨ z = 2 ∨ z = 3 ∨ z = 4 ∨ z = 5 ∨ z = 6 := by omega
        rcases hz with rfl | rfl | rfl | rfl | rfl | rfl | rfl
        all_goals
          simp (disch := omega) only [up_ne, up_eq]
          rfl
      · rw [tbD_n a3]
        simp (disch := omega) only [up_ne]
        rw [k1 _ _ (by omega)]
        exact cm_g hC q z q0 (by omega) z0 z1
    generalize up (up (up (up (up (up (up E2 (a + 3 + C 0 1 0) 0 r) (a + 3 + C 0 1 0) 1 p) (a + 3 + C 0 1 0) 2 w) (a + 3 + C 0 1 0) 3 h) (a + 3 + C 0 1 0) 4 x) (a + 3 + C 0 1 0) 5 y) (a + 3 + C 0 1 0) 6 0 = E3 at *
    have qF : ∀ b j : Int, ((b ≠ B + 309 ∨ j ≠ 0) ∧ (b ≠ a ∨ j ≠ 1)) → up F2 a 1 (C 0 1 0 + 1) b j = F b j := fun b j z => by rw [up_ne (by omega)]; exact k4 b j (by omega)
    have qG : ∀ b j : Int, (b ≠ a ∨ j ≠ 1) → up F2 a 1 (C 0 1 0 + 1) b j = F2 b j := fun b j z => up_ne (by omega)
    have q1 : up F2 a 1 (C 0 1 0 + 1) a 1 = C 0 1 0 + 1 := up_eq
    generalize up F2 a 1 (C 0 1 0 + 1) = F3 at *
    have hC2 : ctM a (unC C (tbD C r p w h x y) (C 0 1 0 + 1)) F3 E3 := ctM_un hC hW q1 (fun q z q0 q1 z0 z1 => ?_) (fun b j u v z => qF b j (by omega)) (fun b j u v z => qE b j (by omega))
    · have hac : acX (B + 309) (unC C (tbD C r p w h x y) (C 0 1 0 + 1)) (n - shf n + 1) (kpH C n H) (kpN C n HN) F3 E3 := acX_keep (cx_a hM) bn.1 bn.2 b1.1 o7 ((qG _ _ (by omega)).trans k5) (fun i j u v x y => by rw [qA _ _ (by omega)]; exact k2 i j u v x y) (by rw [qA _ _ (by omega)]; exact k3.1) (by rw [qA _ _ (by omega), k3.2.1]; exact cm_1 hC) (fun hg => by rw [qA _ _ (by omega), k3.2.2.1]; exact cm_g hC _ 2 (by omega) hg (by omega) (by omega)) (fun hg => by rw [qA _ _ (by omega), k3.2.2.2.1]; exact cm_g hC _ 3 (by omega) hg (by omega) (by omega)) (fun hg => by rw [qA _ _ (by omega), k3.2.2.2.2]; exact cm_g hC _ 6 (by omega) hg (by omega) (by omega)) (fun q z q0 q1 z0 z1 hz => tbD_n (by omega))
      refine cX_plan (M := M) (pl := pl) hT (dg_W hW hok) hC2 (by omega) ((qF _ _ (by omega)).trans (cx_1 hM)) (fun i u v => (qE _ _ (by omega)).trans (cx_t hM i u v)) ((qF _ _ (by omega)).trans (cx_15 hM)) hac ⟨(qF _ _ (by omega)).trans (cx_r hM).1, (qF _ _ (by omega)).trans (cx_r hM).2.1, (qF _ _ (by omega)).trans (cx_r hM).2.2.1, (qF _ _ (by omega)).trans (cx_r hM).2.2.2⟩ (fun R4 F4 E4 p1 p2 p3 p4 => ?_)
      repeat' first
        | exact absurd hc (by decide)
        | simp (disch := omega) only [ue_X8_grant, t_X8_grant, zLg, zRf, zFq, zEl, zNz, zUf, zUe, zUr, zCe, zSn, gd_0, gd_1, gd_2, gd_3, gd_4, gd_5, gd_6, gd_7, gd_8, gd_9, gd_10, gd_11, gd_12, gd_13, gd_14, gd_15, gd_16, gd_17, gd_18, gd_19, se_0, se_1, se_2, se_3, se_4, se_5, se_6, se_7, se_8, se_9, se_10, se_11, se_12, se_13, se_14, se_15, se_16, se_17, se_18, se_19, e_const, e_load, e_store, e_iinc, e_dup, e_dup2, e_pop, e_iadd, e_isub, e_imul, e_ladd, e_lsub, e_lmul, e_iaddw, e_isubw, e_imulw, e_laddw, e_lsubw, e_lmulw, e_iand, e_ior, e_ishl, e_ishr, e_iushr, e_lcmp, e_imax, e_imin, e_idiv, e_irem, e_ldiv, e_lrem, e_i2l, e_i2b, e_l2i, e_i2c, e_getF, e_getR, e_putF, e_putR, e_putz, e_ald, e_aldR, e_ast, e_astb, e_astz, e_asta, e_len, e_acopy, e_new, e_newa, e_mna, e_this, e_room, e_call0, e_callv0, e_call1, e_callv1, e_inv1, e_invv1, e_call2, e_callv2, e_inv2, e_invv2, e_call3, e_callv3, e_inv3, e_invv3, e_call4, e_callv4, e_inv4, e_invv4, e_call5, e_callv5, e_inv5, e_invv5, e_call6, e_callv6, e_inv6, e_invv6, e_call7, e_callv7, e_inv7, e_invv7, e_call8, e_callv8, e_inv8, e_invv8, e_ret, e_retz, e_retc, e_retb, e_retv, e_skip, e_sco, e_tlen, e_tat, e_iz_eq0, e_iz_eq1, e_iz_ne0, e_iz_ne1, add0, sc_d, sc_t, inI_e, inL_e, up_eq, true_or, or_true, or_false, false_or, and_true, true_and, not_false_eq_true, Int.reduceAdd, Int.reduceSub, Int.reduceMul, Int.reduceNeg]
        | with_reducible first | refine izl_lt (fun hc => ?_) (fun hc => ?_) | refine izl_ge (fun hc => ?_) (fun hc => ?_) | refine izl_eq (fun hc => ?_) (fun hc => ?_) | refine ic_ge (fun hc => ?_) (fun hc => ?_) | refine ic_lt (fun hc => ?_) (fun hc => ?_) | refine ic_ne (fun hc => ?_) (fun hc => ?_) | refine ic_eq (fun hc => ?_) (fun hc => ?_) | refine ic_le (fun hc => ?_) (fun hc => ?_) | refine ic_gt (fun hc => ?_) (fun hc => ?_) | refine iz_eq (fun hc => ?_) (fun hc => ?_) | refine iz_ne (fun hc => ?_) (fun hc => ?_) | refine iz_lt (fun hc => ?_) (fun hc => ?_) | refine iz_ge (fun hc => ?_) (fun hc => ?_) | refine iz_gt (fun hc => ?_) (fun hc => ?_) | refine iz_le (fun hc => ?_) (fun hc => ?_) | refine iz_nu (fun hc => ?_) (fun hc => ?_) | refine iz_nn (fun hc => ?_) (fun hc => ?_)
        | omega
        | (exfalso; omega)
      all_goals exact h1 hok R4 _ E4 p1 (p3 0 (by omega)) (fun b j z => ⟨(p4 b j z).1, by rw [up_ne (by omega), (p4 b j z).2.1]; exact qF b j (by omega), by rw [(p4 b j z).2.2]; exact qE b j (by omega)⟩)
    · exact qT q z q0 q1 z0 z1
  · have hno := hok
    repeat' first
      | exact absurd hc (by decide)
      | with_reducible refine sX_isSpot pB h2 pa hC (fun q5 q6 => ?_) (fun q7 => ?_)
      | with_reducible refine sX_isRing pB h2 pa hC (fun q5 q6 => ?_) (fun q7 => ?_)
      | with_reducible refine sX_isSize (fun q3 q4 => ?_) (fun q8 => ?_)
      | simp (disch := omega) only [t_X8_dig, ue_X8_dig, ub_X8_dig_70, ub_X8_dig_69, ub_X8_dig_19, ue_X8_refuse, t_X8_refuse, zLg, zRf, zFq, zEl, zNz, zUf, zUe, zUr, zCe, zSn, gd_0, gd_1, gd_2, gd_3, gd_4, gd_5, gd_6, gd_7, gd_8, gd_9, gd_10, gd_11, gd_12, gd_13, gd_14, gd_15, gd_16, gd_17, gd_18, gd_19, se_0, se_1, se_2, se_3, se_4, se_5, se_6, se_7, se_8, se_9, se_10, se_11, se_12, se_13, se_14, se_15, se_16, se_17, se_18, se_19, e_const, e_load, e_store, e_iinc, e_dup, e_dup2, e_pop, e_iadd, e_isub, e_imul, e_ladd, e_lsub, e_lmul, e_iaddw, e_isubw, e_imulw, e_laddw, e_lsubw, e_lmulw, e_iand, e_ior, e_ishl, e_ishr, e_iushr, e_lcmp, e_imax, e_imin, e_idiv, e_irem, e_ldiv, e_lrem, e_i2l, e_i2b, e_l2i, e_i2c, e_getF, e_getR, e_putF, e_putR, e_putz, e_ald, e_aldR, e_ast, e_astb, e_astz, e_asta, e_len, e_acopy, e_new, e_newa, e_mna, e_this, e_room, e_call0, e_callv0, e_call1, e_callv1, e_inv1, e_invv1, e_call2, e_callv2, e_inv2, e_invv2, e_call3, e_callv3, e_inv3, e_invv3, e_call4, e_callv4, e_inv4, e_invv4, e_call5, e_callv5, e_inv5, e_invv5, e_call6, e_callv6, e_inv6, e_invv6, e_call7, e_callv7, e_inv7, e_invv7, e_call8, e_callv8, e_inv8, e_invv8, e_ret, e_retz, e_retc, e_retb, e_retv, e_skip, e_sco, e_tlen, e_tat, e_iz_eq0, e_iz_eq1, e_iz_ne0, e_iz_ne1, add0, sc_d, sc_t, inI_e, inL_e, up_eq, true_or, or_true, or_false, false_or, and_true, true_and, not_false_eq_true, Int.reduceAdd, Int.reduceSub, Int.reduceMul, Int.reduceNeg, h2, r12, e1]
      | with_reducible first | refine izl_lt (fun hc => ?_) (fun hc => ?_) | refine izl_ge (fun hc => ?_) (fun hc => ?_) | refine izl_eq (fun hc => ?_) (fun hc => ?_) | refine ic_ge (fun hc => ?_) (fun hc => ?_) | refine ic_lt (fun hc => ?_) (fun hc => ?_) | refine ic_ne (fun hc => ?_) (fun hc => ?_) | refine ic_eq (fun hc => ?_) (fun hc => ?_) | refine ic_le (fun hc => ?_) (fun hc => ?_) | refine ic_gt (fun hc => ?_) (fun hc => ?_) | refine iz_eq (fun hc => ?_) (fun hc => ?_) | refine iz_ne (fun hc => ?_) (fun hc => ?_) | refine iz_lt (fun hc => ?_) (fun hc => ?_) | refine iz_ge (fun hc => ?_) (fun hc => ?_) | refine iz_gt (fun hc => ?_) (fun hc => ?_) | refine iz_le (fun hc => ?_) (fun hc => ?_) | refine iz_nu (fun hc => ?_) (fun hc => ?_) | refine iz_nn (fun hc => ?_) (fun hc => ?_)
      | omega
      | (exfalso; omega)
    all_goals exact h0 _ _ _ _ _ (by omega) (by simp (disch := omega) only [rp_dig, if_pos, if_neg]) (qX.s (by omega))
theorem cX_undo (hT : clT B a L R) (hM : clM B a C tp fd tr fa pl D k M n H HN R F E) (hs : stW C tp fd tr D k M n H HN) (h1 : (1 ≤ n) → ∀ R' F' E' : Int → Int → Int, clT B a L R' → clM B a (unC C (H (n - 1)) (HN (n - 1))) tp fd 0 fa pl (dwD (unC C (H (n - 1)) (HN (n - 1)))) 0 M (n - 1) H HN R' F' E' → fX B R R' F F' E E' → Q 1 (L, R', F', E', N)) (h0 : ∀ (R' F' E' : Int → Int → Int) (v t : Int), ¬ (1 ≤ n) → (v, t) = (0, 6) → qX B a t R R' F F' E E' → Q v (L, R', F', E', N)) : T_X8_undo [B] (L, R, F, E, N) Q := by
  have pB := cl_p hT
  have ca := cl_a hT
  have pa : 0 ≤ a := by omega
  have h2 := cl_2 hT
  have hC := cx_c hM
  have hW := sw_w hs
  have hct := cl_ct hT
  have bn := sw_n hs
  have bk := sw_k hs
  have bf := sw_f hs
  have b0 := cw_0 hW
  have b1 := cw_1 hW
  have b2 := cw_2 hW
  have b3 := cw_3 hW
  have b4 := cw_4 hW
  have r12 := cl_12 hT
  obtain ⟨eA, hA⟩ := cx_a hM
  by_cases hok : 1 ≤ n
  · obtain ⟨⟨g0, g1⟩, eN, hH⟩ := hA (n - 1) (by omega) (by omega)
    have hh := sw_h hs (n - 1) (by omega) (by omega)
    rw [if_pos (by omega)] at hh
    have hN1 := (cw_1 hh.1)
    rw [unC_k] at hN1
    repeat' first
      | exact absurd hc (by decide)
      | simp (disch := omega) only [t_X8_undo, ue_X8_undo, zLg, zRf, zFq, zEl, zNz, zUf, zUe, zUr, zCe, zSn, gd_0, gd_1, gd_2, gd_3, gd_4, gd_5, gd_6, gd_7, gd_8, gd_9, gd_10, gd_11, gd_12, gd_13, gd_14, gd_15, gd_16, gd_17, gd_18, gd_19, se_0, se_1, se_2, se_3, se_4, se_5, se_6, se_7, se_8, se_9, se_10, se_11, se_12, se_13, se_14, se_15, se_16, se_17, se_18, se_19, e_const, e_load, e_store, e_iinc, e_dup, e_dup2, e_pop, e_iadd, e_isub, e_imul, e_ladd, e_lsub, e_lmul, e_iaddw, e_isubw, e_imulw, e_laddw, e_lsubw, e_lmulw, e_iand, e_ior, e_ishl, e_ishr, e_iushr, e_lcmp, e_imax, e_imin, e_idiv, e_irem, e_ldiv, e_lrem, e_i2l, e_i2b, e_l2i, e_i2c, e_getF, e_getR, e_putF, e_putR, e_putz, e_ald, e_aldR, e_ast, e_astb, e_astz, e_asta, e_len, e_acopy, e_new, e_newa, e_mna, e_this, e_room, e_call0, e_callv0, e_call1, e_callv1, e_inv1, e_invv1, e_call2, e_callv2, e_inv2, e_invv2, e_call3, e_callv3, e_inv3, e_invv3, e_call4, e_callv4, e_inv4, e_invv4, e_call5, e_callv5, e_inv5, e_invv5, e_call6, e_callv6, e_inv6, e_invv6, e_call7, e_callv7, e_inv7, e_invv7, e_call8, e_callv8, e_inv8, e_invv8, e_ret, e_retz, e_retc, e_retb, e_retv, e_skip, e_sco, e_tlen, e_tat, e_iz_eq0, e_iz_eq1, e_iz_ne0, e_iz_ne1, add0, sc_d, sc_t, inI_e, inL_e, up_eq, true_or, or_true, or_false, false_or, and_true, true_and, not_false_eq_true, Int.reduceAdd, Int.reduceSub, Int.reduceMul, Int.reduceNeg, h2, r12, eA]
      | with_reducible first | refine izl_lt (fun hc => ?_) (fun hc => ?_) | refine izl_ge (fun hc => ?_) (fun hc => ?_) | refine izl_eq (fun hc => ?_) (fun hc => ?_) | refine ic_ge (fun hc => ?_) (fun hc => ?_) | refine ic_lt (fun hc => ?_) (fun hc => ?_) | refine ic_ne (fun hc => ?_) (fun hc => ?_) | refine ic_eq (fun hc => ?_) (fun hc => ?_) | refine ic_le (fun hc => ?_) (fun hc => ?_) | refine ic_gt (fun hc => ?_) (fun hc => ?_) | refine iz_eq (fun hc => ?_) (fun hc => ?_) | refine iz_ne (fun hc => ?_) (fun hc => ?_) | refine iz_lt (fun hc => ?_) (fun hc => ?_) | refine iz_ge (fun hc => ?_) (fun hc => ?_) | refine iz_gt (fun hc => ?_) (fun hc => ?_) | refine iz_le (fun hc => ?_) (fun hc => ?_) | refine iz_nu (fun hc => ?_) (fun hc => ?_) | refine iz_nn (fun hc => ?_) (fun hc => ?_)
      | omega
      | (exfalso; omega)
    refine sX_takeBack (cl_ac hT) hct (by omega) eA hok bn.2 (g := E (B + 309 + 2 + (n - 1)) 0) rfl g0 g1 ?_
    simp only [if_pos (show n - 1 + 1 = n by omega)] at hH
    rw [eN]
    generalize E (B + 309 + 2 + (n - 1)) 0 = g at *
    generalize E (B + 309 + 2 + (n - 1)) 2 = z2 at *
    generalize E (B + 309 + 2 + (n - 1)) 3 = z3 at *
    generalize E (B + 309 + 2 + (n - 1)) 4 = z4 at *
    have qE : ∀ b j : Int, (b < a + 3 ∨ a + 14 ≤ b) → (up (up (up E (a + 3 + g) 2 z2) (a + 3 + g) 3 z3) (a + 3 + g) 6 z4) b j = E b j := fun b j z => by simp (disch := omega) only [up_ne]
    have qT : ∀ q z : Int, 0 ≤ q → q < HN (n - 1) → 0 ≤ z → z < 7 → (up (up (up E (a + 3 + g) 2 z2) (a + 3 + g) 3 z3) (a + 3 + g) 6 z4) (a + 3 + q) z = H (n - 1) q z := fun q z q0 q1 zz0 zz1 => by
      rw [hH q z q0 q1 zz0 zz1]
      by_cases a6 : q = g ∧ z = 6
      · rw [a6.1, a6.2, up_eq, if_neg (by omega), if_neg (by omega), if_pos ⟨rfl, rfl⟩]
      · by_cases a3 : q = g ∧ z = 3
        · rw [a3.1, a3.2, up_ne (by omega), up_eq, if_neg (by omega), if_pos ⟨rfl, rfl⟩]
        · by_cases a2 : q = g ∧ z = 2
          · rw [a2.1, a2.2, up_ne (by omega), up_ne (by omega), up_eq, if_pos ⟨rfl, rfl⟩]
          · rw [up_ne (by omega), up_ne (by omega), up_ne (by omega), if_neg a2, if_neg a3, if_neg a6]
            exact cm_g hC q z q0 (by omega) zz0 zz1
    generalize up (up (up E (a + 3 + g) 2 z2) (a + 3 + g) 3 z3) (a + 3 + g) 6 z4 = E3 at *
    have qF : ∀ b j : Int, ((b ≠ B + 309 ∨ j ≠ 0) ∧ (b ≠ a ∨ j ≠ 1)) → up (up F (B + 309) 0 (n - 1)) a 1 (HN (n - 1)) b j = F b j := fun b j z => by rw [up_ne (by omega), up_ne (by omega)]
    have q1 : up (up F (B + 309) 0 (n - 1)) a 1 (HN (n - 1)) a 1 = HN (n - 1) := up_eq
    have q0 : up (up F (B + 309) 0 (n - 1)) a 1 (HN (n - 1)) (B + 309) 0 = n - 1 := by rw [up_ne (by omega), up_eq]
    generalize up (up F (B + 309) 0 (n - 1)) a 1 (HN (n - 1)) = F3 at *
    have hC2 : ctM a (unC C (H (n - 1)) (HN (n - 1))) F3 E3 := ctM_un hC hW q1 qT (fun b j u v z => qF b j (by omega)) (fun b j u v z => qE b j (by omega))
    have hac : acX (B + 309) (unC C (H (n - 1)) (HN (n - 1))) (n - 1) H HN F3 E3 := by
      refine ⟨q0, fun i i0 i1 => ?_⟩
      have e : ∀ j : Int, E3 (B + 309 + 2 + i) j = E (B + 309 + 2 + i) j := fun j => qE _ _ (by omega)
      obtain ⟨o1, o2, o3⟩ := hA i i0 (by omega)
      simp only [e]
      refine ⟨o1, o2, fun q z zq0 zq1 zz0 zz1 => ?_⟩
      rw [o3 q z zq0 zq1 zz0 zz1]
      have ee : (if i + 1 = n then C 2 q z else H (i + 1) q z) = if i + 1 = n - 1 then unC C (H (n - 1)) (HN (n - 1)) 2 q z else H (i + 1) q z := by
        rw [if_neg (show ¬ i + 1 = n by omega)]
        by_cases y : i + 1 = n - 1
        · rw [if_pos y, unC_2, y]
        · rw [if_neg y]
      rw [ee]
    try simp (disch := omega) only [zLg, zRf, zFq, zEl, zNz, zUf, zUe, zUr, zCe, zSn, gd_0, gd_1, gd_2, gd_3, gd_4, gd_5, gd_6, gd_7, gd_8, gd_9, gd_10, gd_11, gd_12, gd_13, gd_14, gd_15, gd_16, gd_17, gd_18, gd_19, se_0, se_1, se_2, se_3, se_4, se_5, se_6, se_7, se_8, se_9, se_10, se_11, se_12, se_13, se_14, se_15, se_16, se_17, se_18, se_19, e_const, e_load, e_store, e_iinc, e_dup, e_dup2, e_pop, e_iadd, e_isub, e_imul, e_ladd, e_lsub, e_lmul, e_iaddw, e_isubw, e_imulw, e_laddw, e_lsubw, e_lmulw, e_iand, e_ior, e_ishl, e_ishr, e_iushr, e_lcmp, e_imax, e_imin, e_idiv, e_irem, e_ldiv, e_lrem, e_i2l, e_i2b, e_l2i, e_i2c, e_getF, e_getR, e_putF, e_putR, e_putz, e_ald, e_aldR, e_ast, e_astb, e_astz, e_asta, e_len, e_acopy, e_new, e_newa, e_mna, e_this, e_room, e_call0, e_callv0, e_call1, e_callv1, e_inv1, e_invv1, e_call2, e_callv2, e_inv2, e_invv2, e_call3, e_callv3, e_inv3, e_invv3, e_call4, e_callv4, e_inv4, e_invv4, e_call5, e_callv5, e_inv5, e_invv5, e_call6, e_callv6, e_inv6, e_invv6, e_call7, e_callv7, e_inv7, e_invv7, e_call8, e_callv8, e_inv8, e_invv8, e_ret, e_retz, e_retc, e_retb, e_retv, e_skip, e_sco, e_tlen, e_tat, e_iz_eq0, e_iz_eq1, e_iz_ne0, e_iz_ne1, add0, sc_d, sc_t, inI_e, inL_e, up_eq, true_or, or_true, or_false, false_or, and_true, true_and, not_false_eq_true, Int.reduceAdd, Int.reduceSub, Int.reduceMul, Int.reduceNeg]
    refine cX_plan (M := M) (pl := pl) hT hh.1 hC2 (by omega) ((qF _ _ (by omega)).trans (cx_1 hM)) (fun i u v => (qE _ _ (by omega)).trans (cx_t hM i u v)) ((qF _ _ (by omega)).trans (cx_15 hM)) hac ⟨(qF _ _ (by omega)).trans (cx_r hM).1, (qF _ _ (by omega)).trans (cx_r hM).2.1, (qF _ _ (by omega)).trans (cx_r hM).2.2.1, (qF _ _ (by omega)).trans (cx_r hM).2.2.2⟩ (fun R4 F4 E4 p1 p2 p3 p4 => ?_)
    repeat' first
      | exact absurd hc (by decide)
      | simp (disch := omega) only [ue_X8_allow, t_X8_allow, zLg, zRf, zFq, zEl, zNz, zUf, zUe, zUr, zCe, zSn, gd_0, gd_1, gd_2, gd_3, gd_4, gd_5, gd_6, gd_7, gd_8, gd_9, gd_10, gd_11, gd_12, gd_13, gd_14, gd_15, gd_16, gd_17, gd_18, gd_19, se_0, se_1, se_2, se_3, se_4, se_5, se_6, se_7, se_8, se_9, se_10, se_11, se_12, se_13, se_14, se_15, se_16, se_17, se_18, se_19, e_const, e_load, e_store, e_iinc, e_dup, e_dup2, e_pop, e_iadd, e_isub, e_imul, e_ladd, e_lsub, e_lmul, e_iaddw, e_isubw, e_imulw, e_laddw, e_lsubw, e_lmulw, e_iand, e_ior, e_ishl, e_ishr, e_iushr, e_lcmp, e_imax, e_imin, e_idiv, e_irem, e_ldiv, e_lrem, e_i2l, e_i2b, e_l2i, e_i2c, e_getF, e_getR, e_putF, e_putR, e_putz, e_ald, e_aldR, e_ast, e_astb, e_astz, e_asta, e_len, e_acopy, e_new, e_newa, e_mna, e_this, e_room, e_call0, e_callv0, e_call1, e_callv1, e_inv1, e_invv1, e_call2, e_callv2, e_inv2, e_invv2, e_call3, e_callv3, e_inv3, e_invv3, e_call4, e_callv4, e_inv4, e_invv4, e_call5, e_callv5, e_inv5, e_invv5, e_call6, e_callv6, e_inv6, e_invv6, e_call7, e_callv7, e_inv7, e_invv7, e_call8, e_callv8, e_inv8, e_invv8, e_ret, e_retz, e_retc, e_retb, e_retv, e_skip, e_sco, e_tlen, e_tat, e_iz_eq0, e_iz_eq1, e_iz_ne0, e_iz_ne1, add0, sc_d, sc_t, inI_e, inL_e, up_eq, true_or, or_true, or_false, false_or, and_true, true_and, not_false_eq_true, Int.reduceAdd, Int.reduceSub, Int.reduceMul, Int.reduceNeg]
      | with_reducible first | refine izl_lt (fun hc => ?_) (fun hc => ?_) | refine izl_ge (fun hc => ?_) (fun hc => ?_) | refine izl_eq (fun hc => ?_) (fun hc => ?_) | refine ic_ge (fun hc => ?_) (fun hc => ?_) | refine ic_lt (fun hc => ?_) (fun hc => ?_) | refine ic_ne (fun hc => ?_) (fun hc => ?_) | refine ic_eq (fun hc => ?_) (fun hc => ?_) | refine ic_le (fun hc => ?_) (fun hc => ?_) | refine ic_gt (fun hc => ?_) (fun hc => ?_) | refine iz_eq (fun hc => ?_) (fun hc => ?_) | refine iz_ne (fun hc => ?_) (fun hc => ?_) | refine iz_lt (fun hc => ?_) (fun hc => ?_) | refine iz_ge (fun hc => ?_) (fun hc => ?_) | refine iz_gt (fun hc => ?_) (fun hc => ?_) | refine iz_le (fun hc => ?_) (fun hc => ?_) | refine iz_nu (fun hc => ?_) (fun hc => ?_) | refine iz_nn (fun hc => ?_) (fun hc => ?_)
      | omega
      | (exfalso; omega)
    all_goals exact h1 hok R4 _ E4 p1 (p3 0 (by omega)) (fun b j z => ⟨(p4 b j z).1, by rw [up_ne (by omega), (p4 b j z).2.1]; exact qF b j (by omega), by rw [(p4 b j z).2.2]; exact qE b j (by omega)⟩)
  · have hno := hok
    repeat' first
      | exact absurd hc (by decide)
      | simp (disch := omega) only [t_X8_undo, ue_X8_undo, ue_X8_deny, t_X8_deny, zLg, zRf, zFq, zEl, zNz, zUf, zUe, zUr, zCe, zSn, gd_0, gd_1, gd_2, gd_3, gd_4, gd_5, gd_6, gd_7, gd_8, gd_9, gd_10, gd_11, gd_12, gd_13, gd_14, gd_15, gd_16, gd_17, gd_18, gd_19, se_0, se_1, se_2, se_3, se_4, se_5, se_6, se_7, se_8, se_9, se_10, se_11, se_12, se_13, se_14, se_15, se_16, se_17, se_18, se_19, e_const, e_load, e_store, e_iinc, e_dup, e_dup2, e_pop, e_iadd, e_isub, e_imul, e_ladd, e_lsub, e_lmul, e_iaddw, e_isubw, e_imulw, e_laddw, e_lsubw, e_lmulw, e_iand, e_ior, e_ishl, e_ishr, e_iushr, e_lcmp, e_imax, e_imin, e_idiv, e_irem, e_ldiv, e_lrem, e_i2l, e_i2b, e_l2i, e_i2c, e_getF, e_getR, e_putF, e_putR, e_putz, e_ald, e_aldR, e_ast, e_astb, e_astz, e_asta, e_len, e_acopy, e_new, e_newa, e_mna, e_this, e_room, e_call0, e_callv0, e_call1, e_callv1, e_inv1, e_invv1, e_call2, e_callv2, e_inv2, e_invv2, e_call3, e_callv3, e_inv3, e_invv3, e_call4, e_callv4, e_inv4, e_invv4, e_call5, e_callv5, e_inv5, e_invv5, e_call6, e_callv6, e_inv6, e_invv6, e_call7, e_callv7, e_inv7, e_invv7, e_call8, e_callv8, e_inv8, e_invv8, e_ret, e_retz, e_retc, e_retb, e_retv, e_skip, e_sco, e_tlen, e_tat, e_iz_eq0, e_iz_eq1, e_iz_ne0, e_iz_ne1, add0, sc_d, sc_t, inI_e, inL_e, up_eq, true_or, or_true, or_false, false_or, and_true, true_and, not_false_eq_true, Int.reduceAdd, Int.reduceSub, Int.reduceMul, Int.reduceNeg, r12, eA]
      | with_reducible first | refine izl_lt (fun hc => ?_) (fun hc => ?_) | refine izl_ge (fun hc => ?_) (fun hc => ?_) | refine izl_eq (fun hc => ?_) (fun hc => ?_) | refine ic_ge (fun hc => ?_) (fun hc => ?_) | refine ic_lt (fun hc => ?_) (fun hc => ?_) | refine ic_ne (fun hc => ?_) (fun hc => ?_) | refine ic_eq (fun hc => ?_) (fun hc => ?_) | refine ic_le (fun hc => ?_) (fun hc => ?_) | refine ic_gt (fun hc => ?_) (fun hc => ?_) | refine iz_eq (fun hc => ?_) (fun hc => ?_) | refine iz_ne (fun hc => ?_) (fun hc => ?_) | refine iz_lt (fun hc => ?_) (fun hc => ?_) | refine iz_ge (fun hc => ?_) (fun hc => ?_) | refine iz_gt (fun hc => ?_) (fun hc => ?_) | refine iz_le (fun hc => ?_) (fun hc => ?_) | refine iz_nu (fun hc => ?_) (fun hc => ?_) | refine iz_nn (fun hc => ?_) (fun hc => ?_)
      | omega
      | (exfalso; omega)
    all_goals exact h0 _ _ _ _ _ (by omega) rfl (qX.s (by omega))
end ACT

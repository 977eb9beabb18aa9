/-! ===== the reference: finds ===== -/
section BEST
variable {L : Int → Int} {R F E : Int → Int → Int} {N : Nat} {Q : xQ} {m c g p r : Int} {C : Cy} {th : Int → Int}
theorem wcost_gd {C : Cy} {th : Int → Int} (hW : ctW C) (hth : thW th) {r0 p0 r1 p1 : Int} (h00 : 0 ≤ r0) (h01 : r0 < 6) (h10 : 0 ≤ r1) (h11 : r1 < 6) (hp : 0 ≤ p1 ∧ p1 < 12) (hp0 : 0 ≤ p0 ∧ p0 < 12) : gdV (nst r0 r1).toNat (wcost C th r0 p0 r1 p1) := by
  have nb := nst_b h00 h01 h10 h11
  unfold wcost
  split
  · exact frm_gd hW hth hp _ _ hp0.1 hp0.2 (by omega)
  · exact Or.inl rfl
/-- what the reference keeps of the best way -/
def bsM (m : Int) (b : Int → Int) (gs : Nat → Int) (F E : Int → Int → Int) : Prop := F m 27 = b 1 ∧ F m 28 = b 2 ∧ F m 29 = b 3 ∧ F m 30 = b 5 ∧ ∀ i : Nat, (i : Int) < b 5 → E (m + 5) i = gs i
theorem sM_finds (hT : mtT m L R) (hTc : mcT c L R) (hRc : R m 3 = c) (hM : mM m c C F E) (hW : ctW C) (hmc : m + 16 < c) {k r0 p0 r1 p1 : Int} (hk0 : 0 ≤ k) (hk1 : k < C 0 3 0) (h00 : 0 ≤ r0) (h01 : r0 < C 0 0 0) (h10 : 0 ≤ r1) (h11 : r1 < C 0 0 0) (hp : 0 ≤ p1 ∧ p1 < 12) (hp0 : 0 ≤ p0 ∧ p0 < 12)
    (hQ : ∀ F' E' : Int → Int → Int, frS m F F' → frA m E E' → (bst C k r0 p0 r1 p1 0 = 1 → bsM m (bst C k r0 p0 r1 p1) (bsg C k r0 p0 r1 p1) F' E') → Q (bst C k r0 p0 r1 p1 0) (L, R, F', E', N)) : T_X10_finds [m, k, r0, p0, r1, p1] (L, R, F, E, N) Q := by
  have pm := mt_p hT
  have b0 := cw_0 hW
  have hXF : XF = 1125899906842624 := rfl
  have nb := nst_b h00 (by omega) h10 (by omega)
  have pnb := pn_b hW hk0 hk1
  have wW := wh_W hW hk0 hk1
  have wP := pt_W hW hk0 hk1
  -- one thing
  have one : ∀ (y x7 x8 x9 x10 x11 : Int) (th : Int → Int) (F1 E1 : Int → Int → Int) (k9 : xK) (c9 s9 : Nat), mM m c C F1 E1 → ((y = 0 ∧ th = wh C k) ∨ (y = 1 ∧ 0 < pn C k ∧ th = pt C k)) → thW th → 1 ≤ th 4 →
      (∀ (x7 x8 x9 x10 x11 : Int) (F2 E2 : Int → Int → Int) (c2 s2 : Nat), frS m F1 F2 → frA m E1 E2 →
        ((beats (if F1 m 28 = -2 then 0 else 1) (F1 m 28) (F1 m 29) (wcost C th r0 p0 r1 p1) (th 4) ∧ F2 m 27 = y ∧ F2 m 28 = wcost C th r0 p0 r1 p1 / 100000 * th 4 ∧ F2 m 29 = wcost C th r0 p0 r1 p1 % 100000 ∧ F2 m 30 = nst r0 r1 ∧ (∀ i : Nat, (i : Int) < nst r0 r1 → E2 (m + 5) i = gsq C th r0 p0 r1 p1 i)) ∨
         (¬ beats (if F1 m 28 = -2 then 0 else 1) (F1 m 28) (F1 m 29) (wcost C th r0 p0 r1 p1) (th 4) ∧ (∀ j : Int, 27 ≤ j → F2 m j = F1 m j) ∧ (∀ j : Int, E2 (m + 5) j = E1 (m + 5) j))) → k9 [m, k, r0, p0, r1, p1, y + 1, x7, x8, x9, x10, x11] [] (L, R, F2, E2, N) c2 s2) →
      B_X10_finds_45 Q k9 [m, k, r0, p0, r1, p1, y, x7, x8, x9, x10, x11] [y, k, m] (L, R, F1, E1, N) c9 s9 := by
    intro y x7 x8 x9 x10 x11 th F1 E1 k9 c9 s9 hM1 hy hth hld hfin
    have t4 := tw_4 hth
    have hgd := wcost_gd hW hth h00 (by omega) h10 (by omega) hp hp0
    repeat' first
      | exact absurd hc (by decide)
      | with_reducible refine sM_takes hT hTc hRc hM1 hW hmc hk0 hk1 hy (fun F2 g1 g2 => ?_)
      | simp (disch := omega) only [ub_X10_finds_221, ub_X10_finds_201, ub_X10_finds_158, ub_X10_finds_134, ub_X10_finds_45, ub_X10_finds_32, ue_X10_finds, t_X10_finds, zLg, zRf, zFq, zEl, zNz, zUf, zUe, zUr, zCe, zSn, gd_0, gd_1, gd_2, gd_3, gd_4, gd_5, gd_6, gd_7, gd_8, gd_9, gd_10, gd_11, gd_12, gd_13, gd_14, gd_15, gd_16, gd_17, gd_18, gd_19, se_0, se_1, se_2, se_3, se_4, se_5, se_6, se_7, se_8, se_9, se_10, se_11, se_12, se_13, se_14, se_15, se_16, se_17, se_18, se_19, e_const, e_load, e_store, e_iinc, e_dup, e_dup2, e_pop, e_iadd, e_isub, e_imul, e_ladd, e_lsub, e_lmul, e_iaddw, e_isubw, e_imulw, e_laddw, e_lsubw, e_lmulw, e_iand, e_ior, e_ishl, e_ishr, e_iushr, e_lcmp, e_imax, e_imin, e_idiv, e_irem, e_ldiv, e_lrem, e_i2l, e_i2b, e_l2i, e_i2c, e_getF, e_getR, e_putF, e_putR, e_putz, e_ald, e_aldR, e_ast, e_astb, e_astz, e_asta, e_len, e_acopy, e_new, e_newa, e_mna, e_this, e_room, e_call0, e_callv0, e_call1, e_callv1, e_inv1, e_invv1, e_call2, e_callv2, e_inv2, e_invv2, e_call3, e_callv3, e_inv3, e_invv3, e_call4, e_callv4, e_inv4, e_invv4, e_call5, e_callv5, e_inv5, e_invv5, e_call6, e_callv6, e_inv6, e_invv6, e_call7, e_callv7, e_inv7, e_invv7, e_call8, e_callv8, e_inv8, e_invv8, e_ret, e_retz, e_retc, e_retb, e_retv, e_skip, e_sco, e_tlen, e_tat, e_iz_eq0, e_iz_eq1, e_iz_ne0, e_iz_ne1, add0, sc_d, sc_t, inI_e, inL_e, up_eq, true_or, or_true, or_false, false_or, and_true, true_and, not_false_eq_true, Int.reduceAdd, Int.reduceSub, Int.reduceMul, Int.reduceNeg]
      | with_reducible first | refine izl_lt (fun hc => ?_) (fun hc => ?_) | refine izl_ge (fun hc => ?_) (fun hc => ?_) | refine izl_eq (fun hc => ?_) (fun hc => ?_) | refine ic_ge (fun hc => ?_) (fun hc => ?_) | refine ic_lt (fun hc => ?_) (fun hc => ?_) | refine ic_ne (fun hc => ?_) (fun hc => ?_) | refine ic_eq (fun hc => ?_) (fun hc => ?_) | refine ic_le (fun hc => ?_) (fun hc => ?_) | refine ic_gt (fun hc => ?_) (fun hc => ?_) | refine iz_eq (fun hc => ?_) (fun hc => ?_) | refine iz_ne (fun hc => ?_) (fun hc => ?_) | refine iz_lt (fun hc => ?_) (fun hc => ?_) | refine iz_ge (fun hc => ?_) (fun hc => ?_) | refine iz_gt (fun hc => ?_) (fun hc => ?_) | refine iz_le (fun hc => ?_) (fun hc => ?_) | refine iz_nu (fun hc => ?_) (fun hc => ?_) | refine iz_nn (fun hc => ?_) (fun hc => ?_)
      | omega
      | (exfalso; omega)
    have hfs : frS m F1 F2 := fun b j z => g1 b j (by omega)
    have hM2 := hM1.fr hmc hfs frA.rf
    refine sM_goes hT hTc hRc hM2 hW hmc g2 hth h00 h01 h10 h11 hp hp0 fun E3 g3 g4 => ?_
    have e28 : F2 m 28 = F1 m 28 := g1 _ _ (by omega)
    have e29 : F2 m 29 = F1 m 29 := g1 _ _ (by omega)
    have e23 : F2 m 23 = th 4 := sm_4 g2
    have g3A : frA m E1 E3 := fun b j z => g3 b j (by omega) (by omega)
    have hskip : ¬ beats (if F1 m 28 = -2 then 0 else 1) (F1 m 28) (F1 m 29) (wcost C th r0 p0 r1 p1) (th 4) → ∀ x7 x8 x9 x10 x11 : Int, k9 [m, k, r0, p0, r1, p1, y + 1, x7, x8, x9, x10, x11] [] (L, R, up F2 m 26 (nst r0 r1), E3, N) c9 s9 := fun hnb x7 x8 x9 x10 x11 => hfin _ _ _ _ _ _ E3 _ _ (fun b j z => (up_ne (by omega)).trans (hfs b j z)) g3A (Or.inr ⟨hnb, fun j hj => (up_ne (by omega)).trans (g1 _ _ (by omega)), fun j => g3 _ _ (by omega) (by omega)⟩)
    generalize hv : wcost C th r0 p0 r1 p1 = v at *
    by_cases hlt : v < XF
    · have hv0 : 0 ≤ v := by unfold gdV at hgd; omega
      have d1 : Int.tdiv v 100000 = v / 100000 := Int.tdiv_eq_ediv_of_nonneg hv0
      have d2 : Int.tmod v 100000 = v % 100000 := Int.tmod_eq_emod_of_nonneg hv0
      have d3 : 0 ≤ v / 100000 ∧ v / 100000 ≤ 1050 ∧ 0 ≤ v % 100000 ∧ v % 100000 ≤ 600 := by unfold gdV at hgd; omega
      have ml := mul_b d3.1 d3.2.1 t4.1 t4.2 (by omega)
      have hset : beats (if F1 m 28 = -2 then 0 else 1) (F1 m 28) (F1 m 29) v (th 4) → B_X10_finds_134 Q k9 [m, k, r0, p0, r1, p1, y, v, x8, v / 100000 * th 4, v % 100000, x11] [] (L, R, up F2 m 26 (nst r0 r1), E3, N) c9 s9 := fun hbt => by
        have body : ∀ F4 : Int → Int → Int, frS m F1 F4 → F4 m 26 = nst r0 r1 → F4 m 27 = y → F4 m 28 = v / 100000 * th 4 → F4 m 29 = v % 100000 → F4 m 30 = nst r0 r1 → L_X10_finds_172 Q k9 [m, k, r0, p0, r1, p1, y, v, x8, v / 100000 * th 4, v % 100000, 0] [] (L, R, F4, E3, N) c9 s9 := by
          intro F4 q0 q1 q2 q3 q4 q5
          unfold L_X10_finds_172
          refine lpw (fun n l st h c s => ∃ (i : Int) (E4 : Int → Int → Int), l = [m, k, r0, p0, r1, p1, y, v, x8, v / 100000 * th 4, v % 100000, i] ∧ st = [] ∧ h = (L, R, F4, E4, N) ∧ 0 ≤ i ∧ i ≤ nst r0 r1 ∧ (n : Int) = nst r0 r1 - i ∧ (∀ b j : Int, b ≠ m + 5 → E4 b j = E3 b j) ∧ (∀ q : Nat, (q : Int) < i → E4 (m + 5) q = gsq C th r0 p0 r1 p1 q)) ?_ (n := (nst r0 r1).toNat) ⟨0, E3, rfl, rfl, rfl, by omega, by omega, by omega, fun _ _ _ => rfl, fun q hq => by omega⟩
          rintro n k2 hk2 l st h c8 s8 ⟨i, E4, rfl, rfl, rfl, hi, hi2, hn, hfr, hinv⟩
          repeat' first
            | exact absurd hc (by decide)
            | simp (disch := omega) only [ub_X10_finds_221, ub_X10_finds_201, ub_X10_finds_158, ub_X10_finds_134, ub_X10_finds_45, ub_X10_finds_32, ue_X10_finds, t_X10_finds, zLg, zRf, zFq, zEl, zNz, zUf, zUe, zUr, zCe, zSn, gd_0, gd_1, gd_2, gd_3, gd_4, gd_5, gd_6, gd_7, gd_8, gd_9, gd_10, gd_11, gd_12, gd_13, gd_14, gd_15, gd_16, gd_17, gd_18, gd_19, se_0, se_1, se_2, se_3, se_4, se_5, se_6, se_7, se_8, se_9, se_10, se_11, se_12, se_13, se_14, se_15, se_16, se_17, se_18, se_19, e_const, e_load, e_store, e_iinc, e_dup, e_dup2, e_pop, e_iadd, e_isub, e_imul, e_ladd, e_lsub, e_lmul, e_iaddw, e_isubw, e_imulw, e_laddw, e_lsubw, e_lmulw, e_iand, e_ior, e_ishl, e_ishr, e_iushr, e_lcmp, e_imax, e_imin, e_idiv, e_irem, e_ldiv, e_lrem, e_i2l, e_i2b, e_l2i, e_i2c, e_getF, e_getR, e_putF, e_putR, e_putz, e_ald, e_aldR, e_ast, e_astb, e_astz, e_asta, e_len, e_acopy, e_new, e_newa, e_mna, e_this, e_room, e_call0, e_callv0, e_call1, e_callv1, e_inv1, e_invv1, e_call2, e_callv2, e_inv2, e_invv2, e_call3, e_callv3, e_inv3, e_invv3, e_call4, e_callv4, e_inv4, e_invv4, e_call5, e_callv5, e_inv5, e_invv5, e_call6, e_callv6, e_inv6, e_invv6, e_call7, e_callv7, e_inv7, e_invv7, e_call8, e_callv8, e_inv8, e_invv8, e_ret, e_retz, e_retc, e_retb, e_retv, e_skip, e_sco, e_tlen, e_tat, e_iz_eq0, e_iz_eq1, e_iz_ne0, e_iz_ne1, add0, sc_d, sc_t, inI_e, inL_e, up_eq, true_or, or_true, or_false, false_or, and_true, true_and, not_false_eq_true, Int.reduceAdd, Int.reduceSub, Int.reduceMul, Int.reduceNeg, q1, mt_25 hT, mt_31 hT, mt_l4 hT, mt_l5 hT]
            | with_reducible first | refine izl_lt (fun hc => ?_) (fun hc => ?_) | refine izl_ge (fun hc => ?_) (fun hc => ?_) | refine izl_eq (fun hc => ?_) (fun hc => ?_) | refine ic_ge (fun hc => ?_) (fun hc => ?_) | refine ic_lt (fun hc => ?_) (fun hc => ?_) | refine ic_ne (fun hc => ?_) (fun hc => ?_) | refine ic_eq (fun hc => ?_) (fun hc => ?_) | refine ic_le (fun hc => ?_) (fun hc => ?_) | refine ic_gt (fun hc => ?_) (fun hc => ?_) | refine iz_eq (fun hc => ?_) (fun hc => ?_) | refine iz_ne (fun hc => ?_) (fun hc => ?_) | refine iz_lt (fun hc => ?_) (fun hc => ?_) | refine iz_ge (fun hc => ?_) (fun hc => ?_) | refine iz_gt (fun hc => ?_) (fun hc => ?_) | refine iz_le (fun hc => ?_) (fun hc => ?_) | refine iz_nu (fun hc => ?_) (fun hc => ?_) | refine iz_nn (fun hc => ?_) (fun hc => ?_)
            | omega
            | (exfalso; omega)
          · exact hfin _ _ _ _ _ _ E4 _ _ q0 (g3A.tr fun b j z => hfr b j (by omega)) (Or.inl ⟨hbt, q2, q3, q4, q5, fun q hq => hinv q (by omega)⟩)
          · refine hk2 (n - 1) _ _ _ _ _ (by omega) ⟨i + 1, up E4 (m + 5) i (E4 (m + 4) i), rfl, rfl, rfl, by omega, by omega, by omega, fun b j z => (up_ne (by omega)).trans (hfr b j z), fun q hq => ?_⟩
            by_cases z : (q : Int) = i
            · rw [up_at rfl z, hfr _ _ (by omega)]
              have := g4 hlt q (by omega)
              rw [z] at this
              exact this
            · rw [up_ne (by omega)]
              exact hinv q (by omega)
        have fr4 : ∀ z : Int, frS m F1 (up (up (up (up (up F2 m 26 (nst r0 r1)) m 28 (v / 100000 * th 4)) m 29 (v % 100000)) m 27 z) m 30 (nst r0 r1)) := fun z b j hz => by
          simp (disch := omega) only [up_ne]
          exact hfs b j hz
        rcases hy with ⟨rfl, -⟩ | ⟨rfl, -⟩
        · repeat' first
            | exact absurd hc (by decide)
            | simp (disch := omega) only [ub_X10_finds_221, ub_X10_finds_201, ub_X10_finds_158, ub_X10_finds_134, ub_X10_finds_45, ub_X10_finds_32, ue_X10_finds, t_X10_finds, zLg, zRf, zFq, zEl, zNz, zUf, zUe, zUr, zCe, zSn, gd_0, gd_1, gd_2, gd_3, gd_4, gd_5, gd_6, gd_7, gd_8, gd_9, gd_10, gd_11, gd_12, gd_13, gd_14, gd_15, gd_16, gd_17, gd_18, gd_19, se_0, se_1, se_2, se_3, se_4, se_5, se_6, se_7, se_8, se_9, se_10, se_11, se_12, se_13, se_14, se_15, se_16, se_17, se_18, se_19, e_const, e_load, e_store, e_iinc, e_dup, e_dup2, e_pop, e_iadd, e_isub, e_imul, e_ladd, e_lsub, e_lmul, e_iaddw, e_isubw, e_imulw, e_laddw, e_lsubw, e_lmulw, e_iand, e_ior, e_ishl, e_ishr, e_iushr, e_lcmp, e_imax, e_imin, e_idiv, e_irem, e_ldiv, e_lrem, e_i2l, e_i2b, e_l2i, e_i2c, e_getF, e_getR, e_putF, e_putR, e_putz, e_ald, e_aldR, e_ast, e_astb, e_astz, e_asta, e_len, e_acopy, e_new, e_newa, e_mna, e_this, e_room, e_call0, e_callv0, e_call1, e_callv1, e_inv1, e_invv1, e_call2, e_callv2, e_inv2, e_invv2, e_call3, e_callv3, e_inv3, e_invv3, e_call4, e_callv4, e_inv4, e_invv4, e_call5, e_callv5, e_inv5, e_invv5, e_call6, e_callv6, e_inv6, e_invv6, e_call7, e_callv7, e_inv7, e_invv7, e_call8, e_callv8, e_inv8, e_invv8, e_ret, e_retz, e_retc, e_retb, e_retv, e_skip, e_sco, e_tlen, e_tat, e_iz_eq0, e_iz_eq1, e_iz_ne0, e_iz_ne1, add0, sc_d, sc_t, inI_e, inL_e, up_eq, true_or, or_true, or_false, false_or, and_true, true_and, not_false_eq_true, Int.reduceAdd, Int.reduceSub, Int.reduceMul, Int.reduceNeg, up_ne]
            | with_reducible first | refine izl_lt (fun hc => ?_) (fun hc => ?_) | refine izl_ge (fun hc => ?_) (fun hc => ?_) | refine izl_eq (fun hc => ?_) (fun hc => ?_) | refine ic_ge (fun hc => ?_) (fun hc => ?_) | refine ic_lt (fun hc => ?_) (fun hc => ?_) | refine ic_ne (fun hc => ?_) (fun hc => ?_) | refine ic_eq (fun hc => ?_) (fun hc => ?_) | refine ic_le (fun hc => ?_) (fun hc => ?_) | refine ic_gt (fun hc => ?_) (fun hc => ?_) | refine iz_eq (fun hc => ?_) (fun hc => ?_) | refine iz_ne (fun hc => ?_) (fun hc => ?_) | refine iz_lt (fun hc => ?_) (fun hc => ?_) | refine iz_ge (fun hc => ?_) (fun hc => ?_) | refine iz_gt (fun hc => ?_) (fun hc => ?_) | refine iz_le (fun hc => ?_) (fun hc => ?_) | refine iz_nu (fun hc => ?_) (fun hc => ?_) | refine iz_nn (fun hc => ?_) (fun hc => ?_)
            | omega
            | (exfalso; omega)
          exact body _ (fr4 0) (by simp (disch := omega) only [up_ne, up_eq]) (by simp (disch := omega) only [up_ne, up_eq]) (by simp (disch := omega) only [up_ne, up_eq]) (by simp (disch := omega) only [up_ne, up_eq]) up_eq
        · repeat' first
            | exact absurd hc (by decide)
            | simp (disch := omega) only [ub_X10_finds_221, ub_X10_finds_201, ub_X10_finds_158, ub_X10_finds_134, ub_X10_finds_45, ub_X10_finds_32, ue_X10_finds, t_X10_finds, zLg, zRf, zFq, zEl, zNz, zUf, zUe, zUr, zCe, zSn, gd_0, gd_1, gd_2, gd_3, gd_4, gd_5, gd_6, gd_7, gd_8, gd_9, gd_10, gd_11, gd_12, gd_13, gd_14, gd_15, gd_16, gd_17, gd_18, gd_19, se_0, se_1, se_2, se_3, se_4, se_5, se_6, se_7, se_8, se_9, se_10, se_11, se_12, se_13, se_14, se_15, se_16, se_17, se_18, se_19, e_const, e_load, e_store, e_iinc, e_dup, e_dup2, e_pop, e_iadd, e_isub, e_imul, e_ladd, e_lsub, e_lmul, e_iaddw, e_isubw, e_imulw, e_laddw, e_lsubw, e_lmulw, e_iand, e_ior, e_ishl, e_ishr, e_iushr, e_lcmp, e_imax, e_imin, e_idiv, e_irem, e_ldiv, e_lrem, e_i2l, e_i2b, e_l2i, e_i2c, e_getF, e_getR, e_putF, e_putR, e_putz, e_ald, e_aldR, e_ast, e_astb, e_astz, e_asta, e_len, e_acopy, e_new, e_newa, e_mna, e_this, e_room, e_call0, e_callv0, e_call1, e_callv1, e_inv1, e_invv1, e_call2, e_callv2, e_inv2, e_invv2, e_call3, e_callv3, e_inv3, e_invv3, e_call4, e_callv4, e_inv4, e_invv4, e_call5, e_callv5, e_inv5, e_invv5, e_call6, e_callv6, e_inv6, e_invv6, e_call7, e_callv7, e_inv7, e_invv7, e_call8, e_callv8, e_inv8, e_invv8, e_ret, e_retz, e_retc, e_retb, e_retv, e_skip, e_sco, e_tlen, e_tat, e_iz_eq0, e_iz_eq1, e_iz_ne0, e_iz_ne1, add0, sc_d, sc_t, inI_e, inL_e, up_eq, true_or, or_true, or_false, false_or, and_true, true_and, not_false_eq_true, Int.reduceAdd, Int.reduceSub, Int.reduceMul, Int.reduceNeg, up_ne]
            | with_reducible first | refine izl_lt (fun hc => ?_) (fun hc => ?_) | refine izl_ge (fun hc => ?_) (fun hc => ?_) | refine izl_eq (fun hc => ?_) (fun hc => ?_) | refine ic_ge (fun hc => ?_) (fun hc => ?_) | refine ic_lt (fun hc => ?_) (fun hc => ?_) | refine ic_ne (fun hc => ?_) (fun hc => ?_) | refine ic_eq (fun hc => ?_) (fun hc => ?_) | refine ic_le (fun hc => ?_) (fun hc => ?_) | refine ic_gt (fun hc => ?_) (fun hc => ?_) | refine iz_eq (fun hc => ?_) (fun hc => ?_) | refine iz_ne (fun hc => ?_) (fun hc => ?_) | refine iz_lt (fun hc => ?_) (fun hc => ?_) | refine iz_ge (fun hc => ?_) (fun hc => ?_) | refine iz_gt (fun hc => ?_) (fun hc => ?_) | refine iz_le (fun hc => ?_) (fun hc => ?_) | refine iz_nu (fun hc => ?_) (fun hc => ?_) | refine iz_nn (fun hc => ?_) (fun hc => ?_)
            | omega
            | (exfalso; omega)
          exact body _ (fr4 1) (by simp (disch := omega) only [up_ne, up_eq]) (by simp (disch := omega) only [up_ne, up_eq]) (by simp (disch := omega) only [up_ne, up_eq]) (by simp (disch := omega) only [up_ne, up_eq]) up_eq
      repeat' first
        | exact absurd hc (by decide)
        | simp (disch := omega) only [t_X10_finds, ub_X10_finds_45, ub_X10_finds_201, zLg, zRf, zFq, zEl, zNz, zUf, zUe, zUr, zCe, zSn, gd_0, gd_1, gd_2, gd_3, gd_4, gd_5, gd_6, gd_7, gd_8, gd_9, gd_10, gd_11, gd_12, gd_13, gd_14, gd_15, gd_16, gd_17, gd_18, gd_19, se_0, se_1, se_2, se_3, se_4, se_5, se_6, se_7, se_8, se_9, se_10, se_11, se_12, se_13, se_14, se_15, se_16, se_17, se_18, se_19, e_const, e_load, e_store, e_iinc, e_dup, e_dup2, e_pop, e_iadd, e_isub, e_imul, e_ladd, e_lsub, e_lmul, e_iaddw, e_isubw, e_imulw, e_laddw, e_lsubw, e_lmulw, e_iand, e_ior, e_ishl, e_ishr, e_iushr, e_lcmp, e_imax, e_imin, e_idiv, e_irem, e_ldiv, e_lrem, e_i2l, e_i2b, e_l2i, e_i2c, e_getF, e_getR, e_putF, e_putR, e_putz, e_ald, e_aldR, e_ast, e_astb, e_astz, e_asta, e_len, e_acopy, e_new, e_newa, e_mna, e_this, e_room, e_call0, e_callv0, e_call1, e_callv1, e_inv1, e_invv1, e_call2, e_callv2, e_inv2, e_invv2, e_call3, e_callv3, e_inv3, e_invv3, e_call4, e_callv4, e_inv4, e_invv4, e_call5, e_callv5, e_inv5, e_invv5, e_call6, e_callv6, e_inv6, e_invv6, e_call7, e_callv7, e_inv7, e_invv7, e_call8, e_callv8, e_inv8, e_invv8, e_ret, e_retz, e_retc, e_retb, e_retv, e_skip, e_sco, e_tlen, e_tat, e_iz_eq0, e_iz_eq1, e_iz_ne0, e_iz_ne1, add0, sc_d, sc_t, inI_e, inL_e, up_eq, true_or, or_true, or_false, false_or, and_true, true_and, not_false_eq_true, Int.reduceAdd, Int.reduceSub, Int.reduceMul, Int.reduceNeg, up_ne, d1, d2, e23, e28, e29]
        | with_reducible first | refine izl_lt (fun hc => ?_) (fun hc => ?_) | refine izl_ge (fun hc => ?_) (fun hc => ?_) | refine izl_eq (fun hc => ?_) (fun hc => ?_) | refine ic_ge (fun hc => ?_) (fun hc => ?_) | refine ic_lt (fun hc => ?_) (fun hc => ?_) | refine ic_ne (fun hc => ?_) (fun hc => ?_) | refine ic_eq (fun hc => ?_) (fun hc => ?_) | refine ic_le (fun hc => ?_) (fun hc => ?_) | refine ic_gt (fun hc => ?_) (fun hc => ?_) | refine iz_eq (fun hc => ?_) (fun hc => ?_) | refine iz_ne (fun hc => ?_) (fun hc => ?_) | refine iz_lt (fun hc => ?_) (fun hc => ?_) | refine iz_ge (fun hc => ?_) (fun hc => ?_) | refine iz_gt (fun hc => ?_) (fun hc => ?_) | refine iz_le (fun hc => ?_) (fun hc => ?_) | refine iz_nu (fun hc => ?_) (fun hc => ?_) | refine iz_nn (fun hc => ?_) (fun hc => ?_)
        | omega
        | (exfalso; omega)
      · exact hset ⟨hlt, Or.inl (if_pos hc)⟩
      · refine hskip (fun z => ?_) _ _ _ _ _
        obtain ⟨-, z | z⟩ := z
        · split at z <;> omega
        · omega
      · exact hset ⟨hlt, Or.inr (Or.inl (by omega))⟩
      · exact hset ⟨hlt, Or.inr (Or.inr ⟨by omega, by omega⟩)⟩
      · refine hskip (fun z => ?_) _ _ _ _ _
        obtain ⟨-, z | z⟩ := z
        · split at z <;> omega
        · omega
    · repeat' first
        | exact absurd hc (by decide)
        | simp (disch := omega) only [t_X10_finds, ub_X10_finds_45, ub_X10_finds_201, zLg, zRf, zFq, zEl, zNz, zUf, zUe, zUr, zCe, zSn, gd_0, gd_1, gd_2, gd_3, gd_4, gd_5, gd_6, gd_7, gd_8, gd_9, gd_10, gd_11, gd_12, gd_13, gd_14, gd_15, gd_16, gd_17, gd_18, gd_19, se_0, se_1, se_2, se_3, se_4, se_5, se_6, se_7, se_8, se_9, se_10, se_11, se_12, se_13, se_14, se_15, se_16, se_17, se_18, se_19, e_const, e_load, e_store, e_iinc, e_dup, e_dup2, e_pop, e_iadd, e_isub, e_imul, e_ladd, e_lsub, e_lmul, e_iaddw, e_isubw, e_imulw, e_laddw, e_lsubw, e_lmulw, e_iand, e_ior, e_ishl, e_ishr, e_iushr, e_lcmp, e_imax, e_imin, e_idiv, e_irem, e_ldiv, e_lrem, e_i2l, e_i2b, e_l2i, e_i2c, e_getF, e_getR, e_putF, e_putR, e_putz, e_ald, e_aldR, e_ast, e_astb, e_astz, e_asta, e_len, e_acopy, e_new, e_newa, e_mna, e_this, e_room, e_call0, e_callv0, e_call1, e_callv1, e_inv1, e_invv1, e_call2, e_callv2, e_inv2, e_invv2, e_call3, e_callv3, e_inv3, e_invv3, e_call4, e_callv4, e_inv4, e_invv4, e_call5, e_callv5, e_inv5, e_invv5, e_call6, e_callv6, e_inv6, e_invv6, e_call7, e_callv7, e_inv7, e_invv7, e_call8, e_callv8, e_inv8, e_invv8, e_ret, e_retz, e_retc, e_retb, e_retv, e_skip, e_sco, e_tlen, e_tat, e_iz_eq0, e_iz_eq1, e_iz_ne0, e_iz_ne1, add0, sc_d, sc_t, inI_e, inL_e, up_eq, true_or, or_true, or_false, false_or, and_true, true_and, not_false_eq_true, Int.reduceAdd, Int.reduceSub, Int.reduceMul, Int.reduceNeg]
        | with_reducible first | refine izl_lt (fun hc => ?_) (fun hc => ?_) | refine izl_ge (fun hc => ?_) (fun hc => ?_) | refine izl_eq (fun hc => ?_) (fun hc => ?_) | refine ic_ge (fun hc => ?_) (fun hc => ?_) | refine ic_lt (fun hc => ?_) (fun hc => ?_) | refine ic_ne (fun hc => ?_) (fun hc => ?_) | refine ic_eq (fun hc => ?_) (fun hc => ?_) | refine ic_le (fun hc => ?_) (fun hc => ?_) | refine ic_gt (fun hc => ?_) (fun hc => ?_) | refine iz_eq (fun hc => ?_) (fun hc => ?_) | refine iz_ne (fun hc => ?_) (fun hc => ?_) | refine iz_lt (fun hc => ?_) (fun hc => ?_) | refine iz_ge (fun hc => ?_) (fun hc => ?_) | refine iz_gt (fun hc => ?_) (fun hc => ?_) | refine iz_le (fun hc => ?_) (fun hc => ?_) | refine iz_nu (fun hc => ?_) (fun hc => ?_) | refine iz_nn (fun hc => ?_) (fun hc => ?_)
        | omega
        | (exfalso; omega)
      exact hskip (fun z => hlt z.1) _ _ _ _ _
  have b_0 : bst C k r0 p0 r1 p1 0 = bI (vwP C k r0 p0 r1 p1 < XF ∨ vcP C k r0 p0 r1 p1 < XF) := rfl
  have b_1 : bst C k r0 p0 r1 p1 1 = bI (cutB C k (vwP C k r0 p0 r1 p1) (vcP C k r0 p0 r1 p1)) := rfl
  have b_2 : bst C k r0 p0 r1 p1 2 = if bI (cutB C k (vwP C k r0 p0 r1 p1) (vcP C k r0 p0 r1 p1)) = 1 then vcP C k r0 p0 r1 p1 / 100000 * pn C k else vwP C k r0 p0 r1 p1 / 100000 := rfl
  have b_3 : bst C k r0 p0 r1 p1 3 = if bI (cutB C k (vwP C k r0 p0 r1 p1) (vcP C k r0 p0 r1 p1)) = 1 then vcP C k r0 p0 r1 p1 % 100000 else vwP C k r0 p0 r1 p1 % 100000 := rfl
  have b_5 : bst C k r0 p0 r1 p1 5 = nst r0 r1 := rfl
  have b_g : ∀ i, bsg C k r0 p0 r1 p1 i = if bI (cutB C k (vwP C k r0 p0 r1 p1) (vcP C k r0 p0 r1 p1)) = 1 then gsq C (pt C k) r0 p0 r1 p1 i else gsq C (wh C k) r0 p0 r1 p1 i := fun _ => rfl
  have gw := wcost_gd hW wW h00 (by omega) h10 (by omega) hp hp0
  have gp := wcost_gd hW wP h00 (by omega) h10 (by omega) hp hp0
  have evw : wcost C (wh C k) r0 p0 r1 p1 = vwP C k r0 p0 r1 p1 := rfl
  rw [evw] at gw
  have e4w : wh C k 4 = 1 := rfl
  have e4p : pt C k 4 = pn C k := rfl
  have hM0 : mM m c C (up F m 28 (-2)) E := hM.fr hmc (frS.up (by omega) (by omega)) frA.rf
  -- the end
  have fin : ∀ (x7 x8 x9 x10 x11 : Int) (F3 E3 : Int → Int → Int) (k9 : xK) (c9 s9 : Nat), frS m F F3 → frA m E E3 → ((bst C k r0 p0 r1 p1 0 = 1 ∧ bsM m (bst C k r0 p0 r1 p1) (bsg C k r0 p0 r1 p1) F3 E3) ∨ (bst C k r0 p0 r1 p1 0 = 0 ∧ F3 m 28 = -2)) → x_load 6 (x_const 2 (x_ic (fun x y => y ≤ x) (x_load 0 (x_getF 28 (x_const (-2) (x_ic (fun x y => x = y) (x_const 0 (B_X10_finds_221 Q)) (x_const 1 (B_X10_finds_221 Q)))))) k9)) [m, k, r0, p0, r1, p1, 2, x7, x8, x9, x10, x11] [] (L, R, F3, E3, N) c9 s9 := by
    intro x7 x8 x9 x10 x11 F3 E3 k9 c9 s9 q1 q2 q3
    have hq := hQ F3 E3 q1 q2
    rcases q3 with ⟨q3, q4⟩ | ⟨q3, q4⟩
    · have q28 : 0 ≤ F3 m 28 := by
        rw [q4.2.1, b_2]
        split
        · unfold gdV at gp
          have : vcP C k r0 p0 r1 p1 = if 0 < pn C k then wcost C (pt C k) r0 p0 r1 p1 else XF := rfl
          have h1 : 0 ≤ vcP C k r0 p0 r1 p1 / 100000 := by rw [this]; split <;> omega
          exact Int.mul_nonneg h1 (by omega)
        · unfold gdV at gw; omega
      rw [q3] at hq
      repeat' first
        | exact absurd hc (by decide)
        | simp (disch := omega) only [ub_X10_finds_221, ub_X10_finds_201, ub_X10_finds_158, ub_X10_finds_134, ub_X10_finds_45, ub_X10_finds_32, ue_X10_finds, t_X10_finds, zLg, zRf, zFq, zEl, zNz, zUf, zUe, zUr, zCe, zSn, gd_0, gd_1, gd_2, gd_3, gd_4, gd_5, gd_6, gd_7, gd_8, gd_9, gd_10, gd_11, gd_12, gd_13, gd_14, gd_15, gd_16, gd_17, gd_18, gd_19, se_0, se_1, se_2, se_3, se_4, se_5, se_6, se_7, se_8, se_9, se_10, se_11, se_12, se_13, se_14, se_15, se_16, se_17, se_18, se_19, e_const, e_load, e_store, e_iinc, e_dup, e_dup2, e_pop, e_iadd, e_isub, e_imul, e_ladd, e_lsub, e_lmul, e_iaddw, e_isubw, e_imulw, e_laddw, e_lsubw, e_lmulw, e_iand, e_ior, e_ishl, e_ishr, e_iushr, e_lcmp, e_imax, e_imin, e_idiv, e_irem, e_ldiv, e_lrem, e_i2l, e_i2b, e_l2i, e_i2c, e_getF, e_getR, e_putF, e_putR, e_putz, e_ald, e_aldR, e_ast, e_astb, e_astz, e_asta, e_len, e_acopy, e_new, e_newa, e_mna, e_this, e_room, e_call0, e_callv0, e_call1, e_callv1, e_inv1, e_invv1, e_call2, e_callv2, e_inv2, e_invv2, e_call3, e_callv3, e_inv3, e_invv3, e_call4, e_callv4, e_inv4, e_invv4, e_call5, e_callv5, e_inv5, e_invv5, e_call6, e_callv6, e_inv6, e_invv6, e_call7, e_callv7, e_inv7, e_invv7, e_call8, e_callv8, e_inv8, e_invv8, e_ret, e_retz, e_retc, e_retb, e_retv, e_skip, e_sco, e_tlen, e_tat, e_iz_eq0, e_iz_eq1, e_iz_ne0, e_iz_ne1, add0, sc_d, sc_t, inI_e, inL_e, up_eq, true_or, or_true, or_false, false_or, and_true, true_and, not_false_eq_true, Int.reduceAdd, Int.reduceSub, Int.reduceMul, Int.reduceNeg]
        | with_reducible first | refine izl_lt (fun hc => ?_) (fun hc => ?_) | refine izl_ge (fun hc => ?_) (fun hc => ?_) | refine izl_eq (fun hc => ?_) (fun hc => ?_) | refine ic_ge (fun hc => ?_) (fun hc => ?_) | refine ic_lt (fun hc => ?_) (fun hc => ?_) | refine ic_ne (fun hc => ?_) (fun hc => ?_) | refine ic_eq (fun hc => ?_) (fun hc => ?_) | refine ic_le (fun hc => ?_) (fun hc => ?_) | refine ic_gt (fun hc => ?_) (fun hc => ?_) | refine iz_eq (fun hc => ?_) (fun hc => ?_) | refine iz_ne (fun hc => ?_) (fun hc => ?_) | refine iz_lt (fun hc => ?_) (fun hc => ?_) | refine iz_ge (fun hc => ?_) (fun hc => ?_) | refine iz_gt (fun hc => ?_) (fun hc => ?_) | refine iz_le (fun hc => ?_) (fun hc => ?_) | refine iz_nu (fun hc => ?_) (fun hc => ?_) | refine iz_nn (fun hc => ?_) (fun hc => ?_)
        | omega
        | (exfalso; omega)
      exact hq fun _ => q4
    · rw [q3] at hq
      repeat' first
        | exact absurd hc (by decide)
        | simp (disch := omega) only [ub_X10_finds_221, ub_X10_finds_201, ub_X10_finds_158, ub_X10_finds_134, ub_X10_finds_45, ub_X10_finds_32, ue_X10_finds, t_X10_finds, zLg, zRf, zFq, zEl, zNz, zUf, zUe, zUr, zCe, zSn, gd_0, gd_1, gd_2, gd_3, gd_4, gd_5, gd_6, gd_7, gd_8, gd_9, gd_10, gd_11, gd_12, gd_13, gd_14, gd_15, gd_16, gd_17, gd_18, gd_19, se_0, se_1, se_2, se_3, se_4, se_5, se_6, se_7, se_8, se_9, se_10, se_11, se_12, se_13, se_14, se_15, se_16, se_17, se_18, se_19, e_const, e_load, e_store, e_iinc, e_dup, e_dup2, e_pop, e_iadd, e_isub, e_imul, e_ladd, e_lsub, e_lmul, e_iaddw, e_isubw, e_imulw, e_laddw, e_lsubw, e_lmulw, e_iand, e_ior, e_ishl, e_ishr, e_iushr, e_lcmp, e_imax, e_imin, e_idiv, e_irem, e_ldiv, e_lrem, e_i2l, e_i2b, e_l2i, e_i2c, e_getF, e_getR, e_putF, e_putR, e_putz, e_ald, e_aldR, e_ast, e_astb, e_astz, e_asta, e_len, e_acopy, e_new, e_newa, e_mna, e_this, e_room, e_call0, e_callv0, e_call1, e_callv1, e_inv1, e_invv1, e_call2, e_callv2, e_inv2, e_invv2, e_call3, e_callv3, e_inv3, e_invv3, e_call4, e_callv4, e_inv4, e_invv4, e_call5, e_callv5, e_inv5, e_invv5, e_call6, e_callv6, e_inv6, e_invv6, e_call7, e_callv7, e_inv7, e_invv7, e_call8, e_callv8, e_inv8, e_invv8, e_ret, e_retz, e_retc, e_retb, e_retv, e_skip, e_sco, e_tlen, e_tat, e_iz_eq0, e_iz_eq1, e_iz_ne0, e_iz_ne1, add0, sc_d, sc_t, inI_e, inL_e, up_eq, true_or, or_true, or_false, false_or, and_true, true_and, not_false_eq_true, Int.reduceAdd, Int.reduceSub, Int.reduceMul, Int.reduceNeg, q4]
        | with_reducible first | refine izl_lt (fun hc => ?_) (fun hc => ?_) | refine izl_ge (fun hc => ?_) (fun hc => ?_) | refine izl_eq (fun hc => ?_) (fun hc => ?_) | refine ic_ge (fun hc => ?_) (fun hc => ?_) | refine ic_lt (fun hc => ?_) (fun hc => ?_) | refine ic_ne (fun hc => ?_) (fun hc => ?_) | refine ic_eq (fun hc => ?_) (fun hc => ?_) | refine ic_le (fun hc => ?_) (fun hc => ?_) | refine ic_gt (fun hc => ?_) (fun hc => ?_) | refine iz_eq (fun hc => ?_) (fun hc => ?_) | refine iz_ne (fun hc => ?_) (fun hc => ?_) | refine iz_lt (fun hc => ?_) (fun hc => ?_) | refine iz_ge (fun hc => ?_) (fun hc => ?_) | refine iz_gt (fun hc => ?_) (fun hc => ?_) | refine iz_le (fun hc => ?_) (fun hc => ?_) | refine iz_nu (fun hc => ?_) (fun hc => ?_) | refine iz_nn (fun hc => ?_) (fun hc => ?_)
        | omega
        | (exfalso; omega)
      exact hq fun z => absurd z (by decide)
  simp (disch := omega) only [ub_X10_finds_221, ub_X10_finds_201, ub_X10_finds_158, ub_X10_finds_134, ub_X10_finds_45, ub_X10_finds_32, ue_X10_finds, t_X10_finds, zLg, zRf, zFq, zEl, zNz, zUf, zUe, zUr, zCe, zSn, gd_0, gd_1, gd_2, gd_3, gd_4, gd_5, gd_6, gd_7, gd_8, gd_9, gd_10, gd_11, gd_12, gd_13, gd_14, gd_15, gd_16, gd_17, gd_18, gd_19, se_0, se_1, se_2, se_3, se_4, se_5, se_6, se_7, se_8, se_9, se_10, se_11, se_12, se_13, se_14, se_15, se_16, se_17, se_18, se_19, e_const, e_load, e_store, e_iinc, e_dup, e_dup2, e_pop, e_iadd, e_isub, e_imul, e_ladd, e_lsub, e_lmul, e_iaddw, e_isubw, e_imulw, e_laddw, e_lsubw, e_lmulw, e_iand, e_ior, e_ishl, e_ishr, e_iushr, e_lcmp, e_imax, e_imin, e_idiv, e_irem, e_ldiv, e_lrem, e_i2l, e_i2b, e_l2i, e_i2c, e_getF, e_getR, e_putF, e_putR, e_putz, e_ald, e_aldR, e_ast, e_astb, e_astz, e_asta, e_len, e_acopy, e_new, e_newa, e_mna, e_this, e_room, e_call0, e_callv0, e_call1, e_callv1, e_inv1, e_invv1, e_call2, e_callv2, e_inv2, e_invv2, e_call3, e_callv3, e_inv3, e_invv3, e_call4, e_callv4, e_inv4, e_invv4, e_call5, e_callv5, e_inv5, e_invv5, e_call6, e_callv6, e_inv6, e_invv6, e_call7, e_callv7, e_inv7, e_invv7, e_call8, e_callv8, e_inv8, e_invv8, e_ret, e_retz, e_retc, e_retb, e_retv, e_skip, e_sco, e_tlen, e_tat, e_iz_eq0, e_iz_eq1, e_iz_ne0, e_iz_ne1, add0, sc_d, sc_t, inI_e, inL_e, up_eq, true_or, or_true, or_false, false_or, and_true, true_and, not_false_eq_true, Int.reduceAdd, Int.reduceSub, Int.reduceMul, Int.reduceNeg]
  unfold L_X10_finds_9
  refine lu 3 ?_
  repeat' first
    | exact absurd hc (by decide)
    | simp (disch := omega) only [t_X10_finds, ub_X10_finds_32, zLg, zRf, zFq, zEl, zNz, zUf, zUe, zUr, zCe, zSn, gd_0, gd_1, gd_2, gd_3, gd_4, gd_5, gd_6, gd_7, gd_8, gd_9, gd_10, gd_11, gd_12, gd_13, gd_14, gd_15, gd_16, gd_17, gd_18, gd_19, se_0, se_1, se_2, se_3, se_4, se_5, se_6, se_7, se_8, se_9, se_10, se_11, se_12, se_13, se_14, se_15, se_16, se_17, se_18, se_19, e_const, e_load, e_store, e_iinc, e_dup, e_dup2, e_pop, e_iadd, e_isub, e_imul, e_ladd, e_lsub, e_lmul, e_iaddw, e_isubw, e_imulw, e_laddw, e_lsubw, e_lmulw, e_iand, e_ior, e_ishl, e_ishr, e_iushr, e_lcmp, e_imax, e_imin, e_idiv, e_irem, e_ldiv, e_lrem, e_i2l, e_i2b, e_l2i, e_i2c, e_getF, e_getR, e_putF, e_putR, e_putz, e_ald, e_aldR, e_ast, e_astb, e_astz, e_asta, e_len, e_acopy, e_new, e_newa, e_mna, e_this, e_room, e_call0, e_callv0, e_call1, e_callv1, e_inv1, e_invv1, e_call2, e_callv2, e_inv2, e_invv2, e_call3, e_callv3, e_inv3, e_invv3, e_call4, e_callv4, e_inv4, e_invv4, e_call5, e_callv5, e_inv5, e_invv5, e_call6, e_callv6, e_inv6, e_invv6, e_call7, e_callv7, e_inv7, e_invv7, e_call8, e_callv8, e_inv8, e_invv8, e_ret, e_retz, e_retc, e_retb, e_retv, e_skip, e_sco, e_tlen, e_tat, e_iz_eq0, e_iz_eq1, e_iz_ne0, e_iz_ne1, add0, sc_d, sc_t, inI_e, inL_e, up_eq, true_or, or_true, or_false, false_or, and_true, true_and, not_false_eq_true, Int.reduceAdd, Int.reduceSub, Int.reduceMul, Int.reduceNeg, e_it1, e_it2, e_it3]
    | with_reducible first | refine izl_lt (fun hc => ?_) (fun hc => ?_) | refine izl_ge (fun hc => ?_) (fun hc => ?_) | refine izl_eq (fun hc => ?_) (fun hc => ?_) | refine ic_ge (fun hc => ?_) (fun hc => ?_) | refine ic_lt (fun hc => ?_) (fun hc => ?_) | refine ic_ne (fun hc => ?_) (fun hc => ?_) | refine ic_eq (fun hc => ?_) (fun hc => ?_) | refine ic_le (fun hc => ?_) (fun hc => ?_) | refine ic_gt (fun hc => ?_) (fun hc => ?_) | refine iz_eq (fun hc => ?_) (fun hc => ?_) | refine iz_ne (fun hc => ?_) (fun hc => ?_) | refine iz_lt (fun hc => ?_) (fun hc => ?_) | refine iz_ge (fun hc => ?_) (fun hc => ?_) | refine iz_gt (fun hc => ?_) (fun hc => ?_) | refine iz_le (fun hc => ?_) (fun hc => ?_) | refine iz_nu (fun hc => ?_) (fun hc => ?_) | refine iz_nn (fun hc => ?_) (fun hc => ?_)
    | omega
    | (exfalso; omega)
  refine one 0 _ _ _ _ _ (wh C k) _ E _ _ _ hM0 (Or.inl ⟨rfl, rfl⟩) wW (by omega) fun x7 x8 x9 x10 x11 F2 E2 c2 s2 g1 g2 g3 => ?_
  have ew : up F m 28 (-2) m 28 = -2 := up_eq
  rw [ew, if_pos rfl, evw, e4w] at g3
  have hb1 : beats 0 (-2) (up F m 28 (-2) m 29) (vwP C k r0 p0 r1 p1) 1 ↔ vwP C k r0 p0 r1 p1 < XF := ⟨fun z => z.1, fun z => ⟨z, Or.inl rfl⟩⟩
  rw [hb1] at g3
  have hF2 : frS m F F2 := (frS.up (by omega) (by omega) : frS m F (up F m 28 (-2))).tr g1
  have hM2 := hM.fr hmc hF2 g2
  have stay : ∀ F3 E3 : Int → Int → Int, (∀ j : Int, 27 ≤ j → F3 m j = F2 m j) → (∀ j : Int, E3 (m + 5) j = E2 (m + 5) j) → ¬ cutB C k (vwP C k r0 p0 r1 p1) (vcP C k r0 p0 r1 p1) → ((bst C k r0 p0 r1 p1 0 = 1 ∧ bsM m (bst C k r0 p0 r1 p1) (bsg C k r0 p0 r1 p1) F3 E3) ∨ (bst C k r0 p0 r1 p1 0 = 0 ∧ F3 m 28 = -2)) := fun F3 E3 hf he hn => by
    rcases g3 with ⟨y0, y2, y3, y4, y6, y7⟩ | ⟨y0, y1, y2⟩
    · refine Or.inl ⟨by rw [b_0]; exact bI_t (Or.inl y0), ?_⟩
      unfold bsM
      rw [b_1, b_2, b_3, b_5, bI_f hn, hf 27 (by omega), hf 28 (by omega), hf 29 (by omega), hf 30 (by omega)]
      refine ⟨y2, ?_, y4, y6, fun i hi => ?_⟩
      · rw [y3, Int.mul_one]; rfl
      · rw [he, b_g, bI_f hn]; exact y7 i hi
    · have hn2 : ¬ (vwP C k r0 p0 r1 p1 < XF ∨ vcP C k r0 p0 r1 p1 < XF) := fun z => z.elim y0 fun z => hn ⟨z, Or.inl y0⟩
      refine Or.inr ⟨by rw [b_0]; exact bI_f hn2, ?_⟩
      rw [hf 28 (by omega), y1 28 (by omega), ew]
  by_cases hpn : pn C k = 0
  · have hvc : vcP C k r0 p0 r1 p1 = XF := if_neg (by omega)
    repeat' first
      | exact absurd hc (by decide)
      | with_reducible refine sM_canCut hT hTc hRc hM2 hW hk0 hk1 (fun hz => ?_) (fun hz => ?_)
      | simp (disch := omega) only [ub_X10_finds_201, zLg, zRf, zFq, zEl, zNz, zUf, zUe, zUr, zCe, zSn, gd_0, gd_1, gd_2, gd_3, gd_4, gd_5, gd_6, gd_7, gd_8, gd_9, gd_10, gd_11, gd_12, gd_13, gd_14, gd_15, gd_16, gd_17, gd_18, gd_19, se_0, se_1, se_2, se_3, se_4, se_5, se_6, se_7, se_8, se_9, se_10, se_11, se_12, se_13, se_14, se_15, se_16, se_17, se_18, se_19, e_const, e_load, e_store, e_iinc, e_dup, e_dup2, e_pop, e_iadd, e_isub, e_imul, e_ladd, e_lsub, e_lmul, e_iaddw, e_isubw, e_imulw, e_laddw, e_lsubw, e_lmulw, e_iand, e_ior, e_ishl, e_ishr, e_iushr, e_lcmp, e_imax, e_imin, e_idiv, e_irem, e_ldiv, e_lrem, e_i2l, e_i2b, e_l2i, e_i2c, e_getF, e_getR, e_putF, e_putR, e_putz, e_ald, e_aldR, e_ast, e_astb, e_astz, e_asta, e_len, e_acopy, e_new, e_newa, e_mna, e_this, e_room, e_call0, e_callv0, e_call1, e_callv1, e_inv1, e_invv1, e_call2, e_callv2, e_inv2, e_invv2, e_call3, e_callv3, e_inv3, e_invv3, e_call4, e_callv4, e_inv4, e_invv4, e_call5, e_callv5, e_inv5, e_invv5, e_call6, e_callv6, e_inv6, e_invv6, e_call7, e_callv7, e_inv7, e_invv7, e_call8, e_callv8, e_inv8, e_invv8, e_ret, e_retz, e_retc, e_retb, e_retv, e_skip, e_sco, e_tlen, e_tat, e_iz_eq0, e_iz_eq1, e_iz_ne0, e_iz_ne1, add0, sc_d, sc_t, inI_e, inL_e, up_eq, true_or, or_true, or_false, false_or, and_true, true_and, not_false_eq_true, Int.reduceAdd, Int.reduceSub, Int.reduceMul, Int.reduceNeg, e_it2, e_it3]
      | with_reducible first | refine izl_lt (fun hc => ?_) (fun hc => ?_) | refine izl_ge (fun hc => ?_) (fun hc => ?_) | refine izl_eq (fun hc => ?_) (fun hc => ?_) | refine ic_ge (fun hc => ?_) (fun hc => ?_) | refine ic_lt (fun hc => ?_) (fun hc => ?_) | refine ic_ne (fun hc => ?_) (fun hc => ?_) | refine ic_eq (fun hc => ?_) (fun hc => ?_) | refine ic_le (fun hc => ?_) (fun hc => ?_) | refine ic_gt (fun hc => ?_) (fun hc => ?_) | refine iz_eq (fun hc => ?_) (fun hc => ?_) | refine iz_ne (fun hc => ?_) (fun hc => ?_) | refine iz_lt (fun hc => ?_) (fun hc => ?_) | refine iz_ge (fun hc => ?_) (fun hc => ?_) | refine iz_gt (fun hc => ?_) (fun hc => ?_) | refine iz_le (fun hc => ?_) (fun hc => ?_) | refine iz_nu (fun hc => ?_) (fun hc => ?_) | refine iz_nn (fun hc => ?_) (fun hc => ?_)
      | omega
      | (exfalso; omega)
    exact fin _ _ _ _ _ F2 E2 _ _ _ hF2 g2 (stay F2 E2 (fun _ _ => rfl) (fun _ => rfl) (fun z => absurd z.1 (by omega)))
  · have hvc : vcP C k r0 p0 r1 p1 = wcost C (pt C k) r0 p0 r1 p1 := if_pos (by omega)
    repeat' first
      | exact absurd hc (by decide)
      | with_reducible refine sM_canCut hT hTc hRc hM2 hW hk0 hk1 (fun hz => ?_) (fun hz => ?_)
      | simp (disch := omega) only [ub_X10_finds_32, zLg, zRf, zFq, zEl, zNz, zUf, zUe, zUr, zCe, zSn, gd_0, gd_1, gd_2, gd_3, gd_4, gd_5, gd_6, gd_7, gd_8, gd_9, gd_10, gd_11, gd_12, gd_13, gd_14, gd_15, gd_16, gd_17, gd_18, gd_19, se_0, se_1, se_2, se_3, se_4, se_5, se_6, se_7, se_8, se_9, se_10, se_11, se_12, se_13, se_14, se_15, se_16, se_17, se_18, se_19, e_const, e_load, e_store, e_iinc, e_dup, e_dup2, e_pop, e_iadd, e_isub, e_imul, e_ladd, e_lsub, e_lmul, e_iaddw, e_isubw, e_imulw, e_laddw, e_lsubw, e_lmulw, e_iand, e_ior, e_ishl, e_ishr, e_iushr, e_lcmp, e_imax, e_imin, e_idiv, e_irem, e_ldiv, e_lrem, e_i2l, e_i2b, e_l2i, e_i2c, e_getF, e_getR, e_putF, e_putR, e_putz, e_ald, e_aldR, e_ast, e_astb, e_astz, e_asta, e_len, e_acopy, e_new, e_newa, e_mna, e_this, e_room, e_call0, e_callv0, e_call1, e_callv1, e_inv1, e_invv1, e_call2, e_callv2, e_inv2, e_invv2, e_call3, e_callv3, e_inv3, e_invv3, e_call4, e_callv4, e_inv4, e_invv4, e_call5, e_callv5, e_inv5, e_invv5, e_call6, e_callv6, e_inv6, e_invv6, e_call7, e_callv7, e_inv7, e_invv7, e_call8, e_callv8, e_inv8, e_invv8, e_ret, e_retz, e_retc, e_retb, e_retv, e_skip, e_sco, e_tlen, e_tat, e_iz_eq0, e_iz_eq1, e_iz_ne0, e_iz_ne1, add0, sc_d, sc_t, inI_e, inL_e, up_eq, true_or, or_true, or_false, false_or, and_true, true_and, not_false_eq_true, Int.reduceAdd, Int.reduceSub, Int.reduceMul, Int.reduceNeg, e_it1, e_it2, e_it3]
      | with_reducible first | refine izl_lt (fun hc => ?_) (fun hc => ?_) | refine izl_ge (fun hc => ?_) (fun hc => ?_) | refine izl_eq (fun hc => ?_) (fun hc => ?_) | refine ic_ge (fun hc => ?_) (fun hc => ?_) | refine ic_lt (fun hc => ?_) (fun hc => ?_) | refine ic_ne (fun hc => ?_) (fun hc => ?_) | refine ic_eq (fun hc => ?_) (fun hc => ?_) | refine ic_le (fun hc => ?_) (fun hc => ?_) | refine ic_gt (fun hc => ?_) (fun hc => ?_) | refine iz_eq (fun hc => ?_) (fun hc => ?_) | refine iz_ne (fun hc => ?_) (fun hc => ?_) | refine iz_lt (fun hc => ?_) (fun hc => ?_) | refine iz_ge (fun hc => ?_) (fun hc => ?_) | refine iz_gt (fun hc => ?_) (fun hc => ?_) | refine iz_le (fun hc => ?_) (fun hc => ?_) | refine iz_nu (fun hc => ?_) (fun hc => ?_) | refine iz_nn (fun hc => ?_) (fun hc => ?_)
      | omega
      | (exfalso; omega)
    refine one 1 _ _ _ _ _ (pt C k) F2 E2 _ _ _ hM2 (Or.inr ⟨rfl, by omega, rfl⟩) wP (by omega) fun x7 x8 x9 x10 x11 F3 E3 c3 s3 m1 m2 m3 => ?_
    rw [← hvc, e4p] at m3
    have hb2 : beats (if F2 m 28 = -2 then 0 else 1) (F2 m 28) (F2 m 29) (vcP C k r0 p0 r1 p1) (pn C k) ↔ cutB C k (vwP C k r0 p0 r1 p1) (vcP C k r0 p0 r1 p1) := by
      unfold beats cutB
      rcases g3 with ⟨y0, y2, y3, y4, y6, y7⟩ | ⟨y0, y1, y2⟩
      · have : F2 m 28 ≠ -2 := by
          rw [y3, Int.mul_one]
          unfold gdV at gw
          omega
        rw [if_neg this, y3, y4, Int.mul_one]
        constructor
        · rintro ⟨z1, z2 | z2⟩
          · omega
          · exact ⟨z1, Or.inr z2⟩
        · rintro ⟨z1, z2 | z2⟩
          · exact absurd y0 z2
          · exact ⟨z1, Or.inr z2⟩
      · rw [y1 28 (by omega), ew, if_pos rfl]
        exact ⟨fun z => ⟨z.1, Or.inl y0⟩, fun z => ⟨z.1, Or.inl rfl⟩⟩
    rw [hb2] at m3
    have hF3 := hF2.tr m1
    have hE3 := g2.tr m2
    have e22 : (1 : Int) + 1 = 2 := rfl
    rw [e22]
    refine fin _ _ _ _ _ F3 E3 _ _ _ hF3 hE3 ?_
    rcases m3 with ⟨y0, y2, y3, y4, y6, y7⟩ | ⟨y0, y1, y2⟩
    · refine Or.inl ⟨by rw [b_0]; exact bI_t (Or.inr y0.1), ?_⟩
      unfold bsM
      rw [b_1, b_2, b_3, b_5, bI_t y0, if_pos rfl, if_pos rfl]
      refine ⟨y2, y3, y4, y6, fun i hi => ?_⟩
      rw [b_g, bI_t y0, if_pos rfl]
      exact y7 i hi
    · exact stay F3 E3 y1 y2 y0
end BEST

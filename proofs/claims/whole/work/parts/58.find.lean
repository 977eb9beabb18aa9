/-! ===== the class's Finder ===== -/
/-- outside lo .. hi nothing differs -/
def frI (lo hi : Int) (F F' : Int → Int → Int) : Prop := ∀ b j : Int, (b < lo ∨ hi ≤ b) → F' b j = F b j
theorem frI.rf {lo hi : Int} {F : Int → Int → Int} : frI lo hi F F := fun _ _ _ => rfl
theorem frI.tr {lo hi : Int} {F G H : Int → Int → Int} (h1 : frI lo hi F G) (h2 : frI lo hi G H) : frI lo hi F H := fun b j h => (h2 b j h).trans (h1 b j h)
theorem frI.mono {lo hi lo' hi' : Int} {F G : Int → Int → Int} (h : frI lo hi F G) (h1 : lo' ≤ lo) (h2 : hi ≤ hi') : frI lo' hi' F G := fun b j z => h b j (by omega)
theorem frI.up {lo hi a i v : Int} {F : Int → Int → Int} (h1 : lo ≤ a) (h2 : a < hi) : frI lo hi F (up F a i v) := fun b j h => up_ne (by omega)
theorem up_up {F : Int → Int → Int} {a i v w : Int} : up (up F a i v) a i w = up F a i w := by
  funext b j
  unfold up
  split <;> rfl
theorem thM.fi {lo hi t : Int} {th : Int → Int} {F F' E E' : Int → Int → Int} (h : thM t th F E) (h1 : frI lo hi F F') (h2 : frI lo hi E E') (hd : hi ≤ t ∨ t + 4 ≤ lo) : thM t th F' E' := ⟨(h2 _ _ (by omega)).trans (tm_l0 h), (h2 _ _ (by omega)).trans (tm_l1 h), (h2 _ _ (by omega)).trans (tm_l2 h), (h2 _ _ (by omega)).trans (tm_w0 h), (h2 _ _ (by omega)).trans (tm_w1 h), (h2 _ _ (by omega)).trans (tm_w2 h), (h2 _ _ (by omega)).trans (tm_h0 h), (h2 _ _ (by omega)).trans (tm_h1 h), (h2 _ _ (by omega)).trans (tm_h2 h), (h1 _ _ (by omega)).trans (tm_3 h), (h1 _ _ (by omega)).trans (tm_4 h), (h1 _ _ (by omega)).trans (tm_5 h), (h1 _ _ (by omega)).trans (tm_6 h)⟩
theorem ctM.fi {lo hi a : Int} {C : Cy} {F F' E E' : Int → Int → Int} (h : ctM a C F E) (hW : ctW C) (h1 : frI lo hi F F') (h2 : frI lo hi E E') (hd : hi ≤ a ∨ a + 105 ≤ lo) : ctM a C F' E' := by
  have b0 := cw_0 hW
  have b1 := cw_1 hW
  have b2 := cw_2 hW
  have b3 := cw_3 hW
  have b4 := cw_4 hW
  exact ⟨(h1 _ _ (by omega)).trans (cm_0 h), (h1 _ _ (by omega)).trans (cm_1 h), (h1 _ _ (by omega)).trans (cm_2 h), (h1 _ _ (by omega)).trans (cm_3 h), (h1 _ _ (by omega)).trans (cm_4 h), fun r x y => (h2 _ _ (by omega)).trans (cm_w h r x y), fun g w x y z u => (h2 _ _ (by omega)).trans (cm_g h g w x y z u), fun g w x y z u => (h2 _ _ (by omega)).trans (cm_c h g w x y z u), fun g w x y z u => (h2 _ _ (by omega)).trans (cm_s h g w x y z u), fun g w x y z u => (h2 _ _ (by omega)).trans (cm_o h g w x y z u), fun g x y => (cm_wh h g x y).fi h1 h2 (by omega), fun g x y => (cm_pt h g x y).fi h1 h2 (by omega)⟩
def fnT (f : Int) (L : Int → Int) (R : Int → Int → Int) : Prop := 0 ≤ f ∧ R f 3 = f + 1 ∧ R f 4 = f + 2 ∧ R f 5 = f + 3 ∧ L (f + 1) = 11 ∧ L (f + 2) = 11 ∧ L (f + 3) = 11
/-- what the rows of a ring's gates hold once they are done -/
def lsB (C : Cy) (j : Nat) (ls : Int → Int) : Prop := ∀ g : Int, 0 ≤ g → g < C 0 1 0 → ls g = XF ∨ (0 ≤ ls g ∧ ls g / 100000 ≤ 210 * j ∧ ls g % 100000 ≤ 106 * j)
theorem lsB_of {C : Cy} {th : Int → Int} (hW : ctW C) (hth : thW th) {r0 r1 p1 : Int} (hp : 0 ≤ p1 ∧ p1 < 12) {j : Nat} (hj : j < 5) (k : Int) : lsB C (j + 1) (lstP C th r0 r1 (frmP C th r0 r1 p1 j) k) := by
  intro g g0 g1
  have hXF : XF = 1125899906842624 := rfl
  have g2 := cw_g1 hW g g0 g1
  have f := frm_gd hW hth (r0 := r0) (r1 := r1) hp j (C 2 g 1) g2.1 g2.2 (by omega)
  have c := gcost_b hW hth g0 g1
  unfold lstP
  unfold gdV at f
  split
  · rcases f with f | f
    · omega
    · exact Or.inr (by omega)
  · exact Or.inl rfl
theorem vP_gd {C : Cy} {j : Nat} {ls : Int → Int} {p g : Int} (hW : ctW C) (h : lsB C j ls) (hj : j ≤ 5) (hp0 : 0 ≤ p) (hp1 : p < 12) (g0 : 0 ≤ g) (g1 : g < C 0 1 0) : gdV j (vP C ls p g) := by
  have hXF : XF = 1125899906842624 := rfl
  have a := h g g0 g1
  have b := cw_g1 hW g g0 g1
  have r := rnd_b hp0 hp1 b.1 b.2
  unfold vP gdV
  split <;> omega
theorem mnP_gd {C : Cy} {j : Nat} {ls : Int → Int} {p : Int} (hW : ctW C) (h : lsB C j ls) (hj : j ≤ 5) (hp0 : 0 ≤ p) (hp1 : p < 12) (n : Nat) (hn : (n : Int) ≤ C 0 1 0) : gdV j (mnP (vP C ls p) n) := by
  rcases ixP_spec (vP C ls p) n with z | ⟨h1, h2, h3, -, -⟩
  · exact Or.inl z.1
  · rw [← h3]
    exact vP_gd hW h hj hp0 hp1 h1 (by omega)
theorem cv_XF : cv XF = 1000000000 := rfl
section FIND
variable {L : Int → Int} {R F E : Int → Int → Int} {N : Nat} {Q : xQ} {a f t g p r : Int} {C : Cy} {th : Int → Int}
theorem sX_firstBest (hf : fnT f L R) (hRf : R f 0 = a) (hT : ctT a L R) (hM : ctM a C F E) (hW : ctW C) (hsep : a + 105 ≤ f) {ring place : Int} (hp0 : 0 ≤ place) (hp1 : place < 12) {ls : Int → Int} {j : Nat} (hj : j ≤ 5) (hr : ∀ g : Int, 0 ≤ g → g < C 0 1 0 → C 2 g 0 = ring → E (f + 2) g = cv (ls g)) (ho : ∀ g : Int, 0 ≤ g → g < C 0 1 0 → C 2 g 0 ≠ ring → ls g = XF) (hb : lsB C j ls) (hQ : Q (ixP (vP C ls place) (C 0 1 0).toNat) (L, R, up F f 2 (cv (mnP (vP C ls place) (C 0 1 0).toNat)), E, N)) : T_X3_firstBest [f, ring, place] (L, R, F, E, N) Q := by
  obtain ⟨f0, f3, f4, f5, l1, l2, l3⟩ := hf
  have hXF : XF = 1125899906842624 := rfl
  have pa := ct_p hT
  have b1 := cw_1 hW
  simp (disch := omega) only [ub_X3_firstBest_95, ue_X3_firstBest, t_X3_firstBest, zLg, zRf, zFq, zEl, zNz, zUf, zUe, zUr, zCe, zSn, gd_0, gd_1, gd_2, gd_3, gd_4, gd_5, gd_6, gd_7, gd_8, gd_9, gd_10, gd_11, gd_12, gd_13, gd_14, gd_15, gd_16, gd_17, gd_18, gd_19, se_0, se_1, se_2, se_3, se_4, se_5, se_6, se_7, se_8, se_9, se_10, se_11, se_12, se_13, se_14, se_15, se_16, se_17, se_18, se_19, e_const, e_load, e_store, e_iinc, e_dup, e_dup2, e_pop, e_iadd, e_isub, e_imul, e_ladd, e_lsub, e_lmul, e_iaddw, e_isubw, e_imulw, e_laddw, e_lsubw, e_lmulw, e_iand, e_ior, e_ishl, e_ishr, e_iushr, e_lcmp, e_imax, e_imin, e_idiv, e_irem, e_ldiv, e_lrem, e_i2l, e_i2b, e_l2i, e_i2c, e_getF, e_getR, e_putF, e_putR, e_putz, e_ald, e_aldR, e_ast, e_astb, e_astz, e_asta, e_len, e_acopy, e_new, e_newa, e_mna, e_this, e_room, e_call0, e_callv0, e_call1, e_callv1, e_inv1, e_invv1, e_call2, e_callv2, e_inv2, e_invv2, e_call3, e_callv3, e_inv3, e_invv3, e_call4, e_callv4, e_inv4, e_invv4, e_call5, e_callv5, e_inv5, e_invv5, e_call6, e_callv6, e_inv6, e_invv6, e_call7, e_callv7, e_inv7, e_invv7, e_call8, e_callv8, e_inv8, e_invv8, e_ret, e_retz, e_retc, e_retb, e_retv, e_skip, e_sco, e_tlen, e_tat, e_iz_eq0, e_iz_eq1, e_iz_ne0, e_iz_ne1, add0, sc_d, sc_t, inI_e, inL_e, up_eq, true_or, or_true, or_false, false_or, and_true, true_and, not_false_eq_true, Int.reduceAdd, Int.reduceSub, Int.reduceMul, Int.reduceNeg]
  unfold L_X3_firstBest_11
  refine lpw (fun n l st h c s => ∃ i x : Int, l = [f, ring, place, ixP (vP C ls place) i.toNat, i, x] ∧ st = [] ∧ h = (L, R, up F f 2 (cv (mnP (vP C ls place) i.toNat)), E, N) ∧ 0 ≤ i ∧ i ≤ C 0 1 0 ∧ (n : Int) = C 0 1 0 - i) ?_ (n := (C 0 1 0).toNat) ⟨0, 0, rfl, rfl, rfl, by omega, by omega, by omega⟩
  rintro n k hk l st h c s ⟨i, x, rfl, rfl, rfl, hi, hi2, hn⟩
  by_cases hlt : i < C 0 1 0
  · have g0 := cw_g0 hW i hi hlt
    have g1 := cw_g1 hW i hi hlt
    have bi := hb i hi hlt
    have bv := vP_gd hW hb hj hp0 hp1 hi hlt
    have bm := mnP_gd hW hb hj hp0 hp1 i.toNat (by omega)
    have em := mnP_s (f := vP C ls place) hi
    have ei := ixP_s (f := vP C ls place) hi
    have rb := rnd_b hp0 hp1 g1.1 g1.2
    have le := (mnP_le (vP C ls place) i.toNat).1
    have cl := cv_lt bv bm hj hj
    have ev : ls i < XF → vP C ls place i = ls i + rnd place (C 2 i 1) := fun z => if_pos z
    have ev2 : ¬ ls i < XF → vP C ls place i = XF := fun z => if_neg z
    have hcv : cv (ls i) = if ls i < XF then ls i / 100000 * 1000 + ls i % 100000 else 1000000000 := rfl
    have hcv2 : cv (vP C ls place i) = if vP C ls place i < XF then vP C ls place i / 100000 * 1000 + vP C ls place i % 100000 else 1000000000 := rfl
    have skip : ¬ vP C ls place i < mnP (vP C ls place) i.toNat → ∀ y : Int, k [f, ring, place, ixP (vP C ls place) i.toNat, i + 1, y] [] (L, R, up F f 2 (cv (mnP (vP C ls place) i.toNat)), E, N) c s := fun z y => by
      rw [if_neg z] at em ei
      exact hk (n - 1) _ _ _ _ _ (by omega) ⟨i + 1, y, by rw [ei], rfl, by rw [em], by omega, by omega, by omega⟩
    by_cases hring : C 2 i 0 = ring
    · have er := hr i hi hlt hring
      repeat' first
        | exact absurd hc (by decide)
        | with_reducible refine sX_apart ?_ ?_ ?_ ?_ ?_
        | simp (disch := omega) only [ub_X3_firstBest_95, ue_X3_firstBest, t_X3_firstBest, zLg, zRf, zFq, zEl, zNz, zUf, zUe, zUr, zCe, zSn, gd_0, gd_1, gd_2, gd_3, gd_4, gd_5, gd_6, gd_7, gd_8, gd_9, gd_10, gd_11, gd_12, gd_13, gd_14, gd_15, gd_16, gd_17, gd_18, gd_19, se_0, se_1, se_2, se_3, se_4, se_5, se_6, se_7, se_8, se_9, se_10, se_11, se_12, se_13, se_14, se_15, se_16, se_17, se_18, se_19, e_const, e_load, e_store, e_iinc, e_dup, e_dup2, e_pop, e_iadd, e_isub, e_imul, e_ladd, e_lsub, e_lmul, e_iaddw, e_isubw, e_imulw, e_laddw, e_lsubw, e_lmulw, e_iand, e_ior, e_ishl, e_ishr, e_iushr, e_lcmp, e_imax, e_imin, e_idiv, e_irem, e_ldiv, e_lrem, e_i2l, e_i2b, e_l2i, e_i2c, e_getF, e_getR, e_putF, e_putR, e_putz, e_ald, e_aldR, e_ast, e_astb, e_astz, e_asta, e_len, e_acopy, e_new, e_newa, e_mna, e_this, e_room, e_call0, e_callv0, e_call1, e_callv1, e_inv1, e_invv1, e_call2, e_callv2, e_inv2, e_invv2, e_call3, e_callv3, e_inv3, e_invv3, e_call4, e_callv4, e_inv4, e_invv4, e_call5, e_callv5, e_inv5, e_invv5, e_call6, e_callv6, e_inv6, e_invv6, e_call7, e_callv7, e_inv7, e_invv7, e_call8, e_callv8, e_inv8, e_invv8, e_ret, e_retz, e_retc, e_retb, e_retv, e_skip, e_sco, e_tlen, e_tat, e_iz_eq0, e_iz_eq1, e_iz_ne0, e_iz_ne1, add0, sc_d, sc_t, inI_e, inL_e, up_eq, true_or, or_true, or_false, false_or, and_true, true_and, not_false_eq_true, Int.reduceAdd, Int.reduceSub, Int.reduceMul, Int.reduceNeg, up_ne, hRf, f4, l2, er, ct_5 hT, ct_6 hT, ct_7 hT, ct_8 hT, ct_9 hT, ct_10 hT, ct_11 hT, ct_l1 hT, ct_l2 hT, ct_l14 hT, ct_l23 hT, ct_l30 hT, ct_l39 hT, ct_l40 hT, ct_gr hT, ct_gl hT, ct_cr hT, ct_cl hT, ct_sr hT, ct_sl hT, ct_or hT, ct_ol hT, ct_wr hT, ct_pr hT, cm_0 hM, cm_1 hM, cm_2 hM, cm_3 hM, cm_4 hM, cm_w hM, cm_g hM, cm_c hM, cm_s hM, cm_o hM]
        | with_reducible first | refine ic_ge (fun hc => ?_) (fun hc => ?_) | refine ic_lt (fun hc => ?_) (fun hc => ?_) | refine ic_ne (fun hc => ?_) (fun hc => ?_) | refine ic_eq (fun hc => ?_) (fun hc => ?_) | refine ic_le (fun hc => ?_) (fun hc => ?_) | refine ic_gt (fun hc => ?_) (fun hc => ?_) | refine iz_eq (fun hc => ?_) (fun hc => ?_) | refine iz_ne (fun hc => ?_) (fun hc => ?_) | refine iz_lt (fun hc => ?_) (fun hc => ?_) | refine iz_ge (fun hc => ?_) (fun hc => ?_) | refine iz_gt (fun hc => ?_) (fun hc => ?_) | refine iz_le (fun hc => ?_) (fun hc => ?_) | refine iz_nu (fun hc => ?_) (fun hc => ?_) | refine iz_nn (fun hc => ?_) (fun hc => ?_)
        | omega
        | (exfalso; omega)
      · refine skip ?_ _
        have : ¬ ls i < XF := fun z => by rw [if_pos z] at hcv; omega
        have := ev2 this
        omega
      · refine skip ?_ _
        have z : ls i < XF := by
          apply Decidable.byContradiction
          intro w
          rw [if_neg w] at hcv
          omega
        have e3 := ev z
        rw [if_pos z] at hcv
        rw [if_pos (by omega)] at hcv2
        intro w
        have := cl.mpr w
        omega
      · have z : ls i < XF := by
          apply Decidable.byContradiction
          intro w
          rw [if_neg w] at hcv
          omega
        have e3 := ev z
        rw [if_pos z] at hcv
        rw [if_pos (by omega)] at hcv2
        have e4 : rnd place (C 2 i 1) + cv (ls i) = cv (vP C ls place i) := by omega
        have w := cl.mp (by omega)
        rw [if_pos w] at em ei
        rw [e4, up_up]
        exact hk (n - 1) _ _ _ _ _ (by omega) ⟨i + 1, _, by rw [ei], rfl, by rw [em], by omega, by omega, by omega⟩
    · have e9 := ev2 (by rw [ho i hi hlt hring]; omega)
      repeat' first
        | exact absurd hc (by decide)
        | simp (disch := omega) only [ub_X3_firstBest_95, ue_X3_firstBest, t_X3_firstBest, zLg, zRf, zFq, zEl, zNz, zUf, zUe, zUr, zCe, zSn, gd_0, gd_1, gd_2, gd_3, gd_4, gd_5, gd_6, gd_7, gd_8, gd_9, gd_10, gd_11, gd_12, gd_13, gd_14, gd_15, gd_16, gd_17, gd_18, gd_19, se_0, se_1, se_2, se_3, se_4, se_5, se_6, se_7, se_8, se_9, se_10, se_11, se_12, se_13, se_14, se_15, se_16, se_17, se_18, se_19, e_const, e_load, e_store, e_iinc, e_dup, e_dup2, e_pop, e_iadd, e_isub, e_imul, e_ladd, e_lsub, e_lmul, e_iaddw, e_isubw, e_imulw, e_laddw, e_lsubw, e_lmulw, e_iand, e_ior, e_ishl, e_ishr, e_iushr, e_lcmp, e_imax, e_imin, e_idiv, e_irem, e_ldiv, e_lrem, e_i2l, e_i2b, e_l2i, e_i2c, e_getF, e_getR, e_putF, e_putR, e_putz, e_ald, e_aldR, e_ast, e_astb, e_astz, e_asta, e_len, e_acopy, e_new, e_newa, e_mna, e_this, e_room, e_call0, e_callv0, e_call1, e_callv1, e_inv1, e_invv1, e_call2, e_callv2, e_inv2, e_invv2, e_call3, e_callv3, e_inv3, e_invv3, e_call4, e_callv4, e_inv4, e_invv4, e_call5, e_callv5, e_inv5, e_invv5, e_call6, e_callv6, e_inv6, e_invv6, e_call7, e_callv7, e_inv7, e_invv7, e_call8, e_callv8, e_inv8, e_invv8, e_ret, e_retz, e_retc, e_retb, e_retv, e_skip, e_sco, e_tlen, e_tat, e_iz_eq0, e_iz_eq1, e_iz_ne0, e_iz_ne1, add0, sc_d, sc_t, inI_e, inL_e, up_eq, true_or, or_true, or_false, false_or, and_true, true_and, not_false_eq_true, Int.reduceAdd, Int.reduceSub, Int.reduceMul, Int.reduceNeg, up_ne, hRf, ct_5 hT, ct_6 hT, ct_7 hT, ct_8 hT, ct_9 hT, ct_10 hT, ct_11 hT, ct_l1 hT, ct_l2 hT, ct_l14 hT, ct_l23 hT, ct_l30 hT, ct_l39 hT, ct_l40 hT, ct_gr hT, ct_gl hT, ct_cr hT, ct_cl hT, ct_sr hT, ct_sl hT, ct_or hT, ct_ol hT, ct_wr hT, ct_pr hT, cm_0 hM, cm_1 hM, cm_2 hM, cm_3 hM, cm_4 hM, cm_w hM, cm_g hM, cm_c hM, cm_s hM, cm_o hM]
        | with_reducible first | refine ic_ge (fun hc => ?_) (fun hc => ?_) | refine ic_lt (fun hc => ?_) (fun hc => ?_) | refine ic_ne (fun hc => ?_) (fun hc => ?_) | refine ic_eq (fun hc => ?_) (fun hc => ?_) | refine ic_le (fun hc => ?_) (fun hc => ?_) | refine ic_gt (fun hc => ?_) (fun hc => ?_) | refine iz_eq (fun hc => ?_) (fun hc => ?_) | refine iz_ne (fun hc => ?_) (fun hc => ?_) | refine iz_lt (fun hc => ?_) (fun hc => ?_) | refine iz_ge (fun hc => ?_) (fun hc => ?_) | refine iz_gt (fun hc => ?_) (fun hc => ?_) | refine iz_le (fun hc => ?_) (fun hc => ?_) | refine iz_nu (fun hc => ?_) (fun hc => ?_) | refine iz_nn (fun hc => ?_) (fun hc => ?_)
        | omega
        | (exfalso; omega)
      exact skip (by omega) _
  · have hie : i = C 0 1 0 := by omega
    rw [← hie] at hQ
    repeat' first
      | exact absurd hc (by decide)
      | simp (disch := omega) only [ub_X3_firstBest_95, ue_X3_firstBest, t_X3_firstBest, zLg, zRf, zFq, zEl, zNz, zUf, zUe, zUr, zCe, zSn, gd_0, gd_1, gd_2, gd_3, gd_4, gd_5, gd_6, gd_7, gd_8, gd_9, gd_10, gd_11, gd_12, gd_13, gd_14, gd_15, gd_16, gd_17, gd_18, gd_19, se_0, se_1, se_2, se_3, se_4, se_5, se_6, se_7, se_8, se_9, se_10, se_11, se_12, se_13, se_14, se_15, se_16, se_17, se_18, se_19, e_const, e_load, e_store, e_iinc, e_dup, e_dup2, e_pop, e_iadd, e_isub, e_imul, e_ladd, e_lsub, e_lmul, e_iaddw, e_isubw, e_imulw, e_laddw, e_lsubw, e_lmulw, e_iand, e_ior, e_ishl, e_ishr, e_iushr, e_lcmp, e_imax, e_imin, e_idiv, e_irem, e_ldiv, e_lrem, e_i2l, e_i2b, e_l2i, e_i2c, e_getF, e_getR, e_putF, e_putR, e_putz, e_ald, e_aldR, e_ast, e_astb, e_astz, e_asta, e_len, e_acopy, e_new, e_newa, e_mna, e_this, e_room, e_call0, e_callv0, e_call1, e_callv1, e_inv1, e_invv1, e_call2, e_callv2, e_inv2, e_invv2, e_call3, e_callv3, e_inv3, e_invv3, e_call4, e_callv4, e_inv4, e_invv4, e_call5, e_callv5, e_inv5, e_invv5, e_call6, e_callv6, e_inv6, e_invv6, e_call7, e_callv7, e_inv7, e_invv7, e_call8, e_callv8, e_inv8, e_invv8, e_ret, e_retz, e_retc, e_retb, e_retv, e_skip, e_sco, e_tlen, e_tat, e_iz_eq0, e_iz_eq1, e_iz_ne0, e_iz_ne1, add0, sc_d, sc_t, inI_e, inL_e, up_eq, true_or, or_true, or_false, false_or, and_true, true_and, not_false_eq_true, Int.reduceAdd, Int.reduceSub, Int.reduceMul, Int.reduceNeg, up_ne, hRf, ct_5 hT, ct_6 hT, ct_7 hT, ct_8 hT, ct_9 hT, ct_10 hT, ct_11 hT, ct_l1 hT, ct_l2 hT, ct_l14 hT, ct_l23 hT, ct_l30 hT, ct_l39 hT, ct_l40 hT, ct_gr hT, ct_gl hT, ct_cr hT, ct_cl hT, ct_sr hT, ct_sl hT, ct_or hT, ct_ol hT, ct_wr hT, ct_pr hT, cm_0 hM, cm_1 hM, cm_2 hM, cm_3 hM, cm_4 hM, cm_w hM, cm_g hM, cm_c hM, cm_s hM, cm_o hM]
      | with_reducible first | refine ic_ge (fun hc => ?_) (fun hc => ?_) | refine ic_lt (fun hc => ?_) (fun hc => ?_) | refine ic_ne (fun hc => ?_) (fun hc => ?_) | refine ic_eq (fun hc => ?_) (fun hc => ?_) | refine ic_le (fun hc => ?_) (fun hc => ?_) | refine ic_gt (fun hc => ?_) (fun hc => ?_) | refine iz_eq (fun hc => ?_) (fun hc => ?_) | refine iz_ne (fun hc => ?_) (fun hc => ?_) | refine iz_lt (fun hc => ?_) (fun hc => ?_) | refine iz_ge (fun hc => ?_) (fun hc => ?_) | refine iz_gt (fun hc => ?_) (fun hc => ?_) | refine iz_le (fun hc => ?_) (fun hc => ?_) | refine iz_nu (fun hc => ?_) (fun hc => ?_) | refine iz_nn (fun hc => ?_) (fun hc => ?_)
      | omega
      | (exfalso; omega)
    all_goals exact hQ
/-- a gate's price -/
def prcE (C : Cy) (th : Int → Int) (f : Int) (E : Int → Int → Int) : Prop := ∀ g : Int, 0 ≤ g → g < C 0 1 0 → E (f + 1) g = if C 2 g 6 = 0 ∧ barsP C th g = 0 then payP C th g * 1000 + hrsP C th g else 1000000000
/-- a ring's gates are done -/
def resE (f : Int) (C : Cy) (ring : Int) (E E' : Int → Int → Int) (ls nx : Int → Int) : Prop := (∀ b j : Int, b ≠ f + 2 → b ≠ f + 3 → E' b j = E b j) ∧ (∀ g : Int, 0 ≤ g → g < C 0 1 0 → C 2 g 0 = ring → E' (f + 2) g = cv (ls g) ∧ E' (f + 3) g = nx g) ∧ (∀ g : Int, C 2 g 0 ≠ ring → E' (f + 2) g = E (f + 2) g ∧ E' (f + 3) g = E (f + 3) g)
theorem sX_priceGates (hf : fnT f L R) (hRf : R f 0 = a) (hT : ctT a L R) (hM : ctM a C F E) (hW : ctW C) (hTt : thT t L R) (hm : thM t th F E) (hth : thW th) (hsep : a + 105 ≤ f) (hst : t + 4 ≤ f) (hQ : ∀ E' : Int → Int → Int, (∀ b j : Int, b ≠ f + 1 → E' b j = E b j) → prcE C th f E' → Q 0 (L, R, F, E', N)) : T_X3_priceGates [f, t] (L, R, F, E, N) Q := by
  obtain ⟨f0, f3, f4, f5, l1, l2, l3⟩ := hf
  have pa := ct_p hT
  have b1 := cw_1 hW
  simp (disch := omega) only [ub_X3_priceGates_60, ue_X3_priceGates, t_X3_priceGates, zLg, zRf, zFq, zEl, zNz, zUf, zUe, zUr, zCe, zSn, gd_0, gd_1, gd_2, gd_3, gd_4, gd_5, gd_6, gd_7, gd_8, gd_9, gd_10, gd_11, gd_12, gd_13, gd_14, gd_15, gd_16, gd_17, gd_18, gd_19, se_0, se_1, se_2, se_3, se_4, se_5, se_6, se_7, se_8, se_9, se_10, se_11, se_12, se_13, se_14, se_15, se_16, se_17, se_18, se_19, e_const, e_load, e_store, e_iinc, e_dup, e_dup2, e_pop, e_iadd, e_isub, e_imul, e_ladd, e_lsub, e_lmul, e_iaddw, e_isubw, e_imulw, e_laddw, e_lsubw, e_lmulw, e_iand, e_ior, e_ishl, e_ishr, e_iushr, e_lcmp, e_imax, e_imin, e_idiv, e_irem, e_ldiv, e_lrem, e_i2l, e_i2b, e_l2i, e_i2c, e_getF, e_getR, e_putF, e_putR, e_putz, e_ald, e_aldR, e_ast, e_astb, e_astz, e_asta, e_len, e_acopy, e_new, e_newa, e_mna, e_this, e_room, e_call0, e_callv0, e_call1, e_callv1, e_inv1, e_invv1, e_call2, e_callv2, e_inv2, e_invv2, e_call3, e_callv3, e_inv3, e_invv3, e_call4, e_callv4, e_inv4, e_invv4, e_call5, e_callv5, e_inv5, e_invv5, e_call6, e_callv6, e_inv6, e_invv6, e_call7, e_callv7, e_inv7, e_invv7, e_call8, e_callv8, e_inv8, e_invv8, e_ret, e_retz, e_retc, e_retb, e_retv, e_skip, e_sco, e_tlen, e_tat, e_iz_eq0, e_iz_eq1, e_iz_ne0, e_iz_ne1, add0, sc_d, sc_t, inI_e, inL_e, up_eq, true_or, or_true, or_false, false_or, and_true, true_and, not_false_eq_true, Int.reduceAdd, Int.reduceSub, Int.reduceMul, Int.reduceNeg]
  unfold L_X3_priceGates_2
  refine lpw (fun n l st h c s => ∃ (i x : Int) (E' : Int → Int → Int), l = [f, t, i, x] ∧ st = [] ∧ h = (L, R, F, E', N) ∧ 0 ≤ i ∧ i ≤ C 0 1 0 ∧ (n : Int) = C 0 1 0 - i ∧ (∀ b j : Int, b ≠ f + 1 → E' b j = E b j) ∧ ∀ g : Int, 0 ≤ g → g < i → E' (f + 1) g = if C 2 g 6 = 0 ∧ barsP C th g = 0 then payP C th g * 1000 + hrsP C th g else 1000000000) ?_ (n := (C 0 1 0).toNat) ⟨0, 0, E, rfl, rfl, rfl, by omega, by omega, by omega, fun _ _ _ => rfl, fun g _ _ => by omega⟩
  rintro n k hk l st h c s ⟨i, x, E', rfl, rfl, rfl, hi, hi2, hn, hfr, hinv⟩
  have hfi : frI f (f + 4) E E' := fun b j z => hfr b j (by omega)
  have hM' := hM.fi hW (frI.rf (lo := f) (hi := f + 4)) hfi (by omega)
  have hm' := hm.fi (frI.rf (lo := f) (hi := f + 4)) hfi (by omega)
  clear hM hm
  by_cases hlt : i < C 0 1 0
  · have hh := hrsB hW hth hi hlt
    have g5 := cw_g5 hW i hi hlt
    have g4 := cw_g4 hW i hi hlt
    have pp : 0 ≤ payP C th i ∧ payP C th i ≤ 206 := by unfold payP; omega
    have next : ∀ v : Int, v = (if C 2 i 6 = 0 ∧ barsP C th i = 0 then payP C th i * 1000 + hrsP C th i else 1000000000) → ∀ y : Int, k [f, t, i + 1, y] [] (L, R, F, up E' (f + 1) i v, N) c s := fun v ev y => by
      refine hk (n - 1) _ _ _ _ _ (by omega) ⟨i + 1, y, _, rfl, rfl, rfl, by omega, by omega, by omega, fun b j z => (up_ne (by omega)).trans (hfr b j z), fun g z1 z2 => ?_⟩
      by_cases z : g = i
      · subst z; rw [up_eq]; exact ev
      · rw [up_ne (by omega)]; exact hinv g z1 (by omega)
    repeat' first
      | exact absurd hc (by decide)
      | with_reducible refine sX_letsThrough hT hM' hW hTt hm' hth ?_ ?_ (fun ho => ?_) (fun ho => ?_)
      | with_reducible refine sX_loadingPay hT hM' hW hTt hm' hth ?_ ?_ ?_
      | with_reducible refine sX_loadingHours hT hM' hW hTt hm' hth ?_ ?_ ?_
      | simp (disch := omega) only [ub_X3_priceGates_60, ue_X3_priceGates, t_X3_priceGates, zLg, zRf, zFq, zEl, zNz, zUf, zUe, zUr, zCe, zSn, gd_0, gd_1, gd_2, gd_3, gd_4, gd_5, gd_6, gd_7, gd_8, gd_9, gd_10, gd_11, gd_12, gd_13, gd_14, gd_15, gd_16, gd_17, gd_18, gd_19, se_0, se_1, se_2, se_3, se_4, se_5, se_6, se_7, se_8, se_9, se_10, se_11, se_12, se_13, se_14, se_15, se_16, se_17, se_18, se_19, e_const, e_load, e_store, e_iinc, e_dup, e_dup2, e_pop, e_iadd, e_isub, e_imul, e_ladd, e_lsub, e_lmul, e_iaddw, e_isubw, e_imulw, e_laddw, e_lsubw, e_lmulw, e_iand, e_ior, e_ishl, e_ishr, e_iushr, e_lcmp, e_imax, e_imin, e_idiv, e_irem, e_ldiv, e_lrem, e_i2l, e_i2b, e_l2i, e_i2c, e_getF, e_getR, e_putF, e_putR, e_putz, e_ald, e_aldR, e_ast, e_astb, e_astz, e_asta, e_len, e_acopy, e_new, e_newa, e_mna, e_this, e_room, e_call0, e_callv0, e_call1, e_callv1, e_inv1, e_invv1, e_call2, e_callv2, e_inv2, e_invv2, e_call3, e_callv3, e_inv3, e_invv3, e_call4, e_callv4, e_inv4, e_invv4, e_call5, e_callv5, e_inv5, e_invv5, e_call6, e_callv6, e_inv6, e_invv6, e_call7, e_callv7, e_inv7, e_invv7, e_call8, e_callv8, e_inv8, e_invv8, e_ret, e_retz, e_retc, e_retb, e_retv, e_skip, e_sco, e_tlen, e_tat, e_iz_eq0, e_iz_eq1, e_iz_ne0, e_iz_ne1, add0, sc_d, sc_t, inI_e, inL_e, up_eq, true_or, or_true, or_false, false_or, and_true, true_and, not_false_eq_true, Int.reduceAdd, Int.reduceSub, Int.reduceMul, Int.reduceNeg, hRf, f3, l1, cm_1 hM']
      | with_reducible first | refine ic_ge (fun hc => ?_) (fun hc => ?_) | refine ic_lt (fun hc => ?_) (fun hc => ?_) | refine ic_ne (fun hc => ?_) (fun hc => ?_) | refine ic_eq (fun hc => ?_) (fun hc => ?_) | refine ic_le (fun hc => ?_) (fun hc => ?_) | refine ic_gt (fun hc => ?_) (fun hc => ?_) | refine iz_eq (fun hc => ?_) (fun hc => ?_) | refine iz_ne (fun hc => ?_) (fun hc => ?_) | refine iz_lt (fun hc => ?_) (fun hc => ?_) | refine iz_ge (fun hc => ?_) (fun hc => ?_) | refine iz_gt (fun hc => ?_) (fun hc => ?_) | refine iz_le (fun hc => ?_) (fun hc => ?_) | refine iz_nu (fun hc => ?_) (fun hc => ?_) | refine iz_nn (fun hc => ?_) (fun hc => ?_)
      | omega
      | (exfalso; omega)
    · exact next _ (if_pos (c := C 2 i 6 = 0 ∧ barsP C th i = 0) ho).symm _
    · exact next _ (if_neg (c := C 2 i 6 = 0 ∧ barsP C th i = 0) ho).symm _
  · repeat' first
      | exact absurd hc (by decide)
      | simp (disch := omega) only [ub_X3_priceGates_60, ue_X3_priceGates, t_X3_priceGates, zLg, zRf, zFq, zEl, zNz, zUf, zUe, zUr, zCe, zSn, gd_0, gd_1, gd_2, gd_3, gd_4, gd_5, gd_6, gd_7, gd_8, gd_9, gd_10, gd_11, gd_12, gd_13, gd_14, gd_15, gd_16, gd_17, gd_18, gd_19, se_0, se_1, se_2, se_3, se_4, se_5, se_6, se_7, se_8, se_9, se_10, se_11, se_12, se_13, se_14, se_15, se_16, se_17, se_18, se_19, e_const, e_load, e_store, e_iinc, e_dup, e_dup2, e_pop, e_iadd, e_isub, e_imul, e_ladd, e_lsub, e_lmul, e_iaddw, e_isubw, e_imulw, e_laddw, e_lsubw, e_lmulw, e_iand, e_ior, e_ishl, e_ishr, e_iushr, e_lcmp, e_imax, e_imin, e_idiv, e_irem, e_ldiv, e_lrem, e_i2l, e_i2b, e_l2i, e_i2c, e_getF, e_getR, e_putF, e_putR, e_putz, e_ald, e_aldR, e_ast, e_astb, e_astz, e_asta, e_len, e_acopy, e_new, e_newa, e_mna, e_this, e_room, e_call0, e_callv0, e_call1, e_callv1, e_inv1, e_invv1, e_call2, e_callv2, e_inv2, e_invv2, e_call3, e_callv3, e_inv3, e_invv3, e_call4, e_callv4, e_inv4, e_invv4, e_call5, e_callv5, e_inv5, e_invv5, e_call6, e_callv6, e_inv6, e_invv6, e_call7, e_callv7, e_inv7, e_invv7, e_call8, e_callv8, e_inv8, e_invv8, e_ret, e_retz, e_retc, e_retb, e_retv, e_skip, e_sco, e_tlen, e_tat, e_iz_eq0, e_iz_eq1, e_iz_ne0, e_iz_ne1, add0, sc_d, sc_t, inI_e, inL_e, up_eq, true_or, or_true, or_false, false_or, and_true, true_and, not_false_eq_true, Int.reduceAdd, Int.reduceSub, Int.reduceMul, Int.reduceNeg, hRf, cm_1 hM']
      | with_reducible first | refine ic_ge (fun hc => ?_) (fun hc => ?_) | refine ic_lt (fun hc => ?_) (fun hc => ?_) | refine ic_ne (fun hc => ?_) (fun hc => ?_) | refine ic_eq (fun hc => ?_) (fun hc => ?_) | refine ic_le (fun hc => ?_) (fun hc => ?_) | refine ic_gt (fun hc => ?_) (fun hc => ?_) | refine iz_eq (fun hc => ?_) (fun hc => ?_) | refine iz_ne (fun hc => ?_) (fun hc => ?_) | refine iz_lt (fun hc => ?_) (fun hc => ?_) | refine iz_ge (fun hc => ?_) (fun hc => ?_) | refine iz_gt (fun hc => ?_) (fun hc => ?_) | refine iz_le (fun hc => ?_) (fun hc => ?_) | refine iz_nu (fun hc => ?_) (fun hc => ?_) | refine iz_nn (fun hc => ?_) (fun hc => ?_)
      | omega
      | (exfalso; omega)
    exact hQ E' hfr fun g z1 z2 => hinv g z1 (by omega)
theorem sX_allBear (hRf : R f 0 = a) (hf0 : 0 ≤ f) (hT : ctT a L R) (hM : ctM a C F E) (hW : ctW C) (hTt : thT t L R) (hm : thM t th F E) (hth : thW th) {r0 r1 : Int} (h00 : 0 ≤ r0) (h01 : r0 < C 0 0 0) (h10 : 0 ≤ r1) (h11 : r1 < C 0 0 0) (h1 : allB C th r0 r1 → Q 1 (L, R, F, E, N)) (h0 : ¬ allB C th r0 r1 → Q 0 (L, R, F, E, N)) : T_X3_allBear [f, t, r0, r1] (L, R, F, E, N) Q := by
  have pa := ct_p hT
  have b0 := cw_0 hW
  simp (disch := omega) only [ue_X3_allBear, t_X3_allBear, zLg, zRf, zFq, zEl, zNz, zUf, zUe, zUr, zCe, zSn, gd_0, gd_1, gd_2, gd_3, gd_4, gd_5, gd_6, gd_7, gd_8, gd_9, gd_10, gd_11, gd_12, gd_13, gd_14, gd_15, gd_16, gd_17, gd_18, gd_19, se_0, se_1, se_2, se_3, se_4, se_5, se_6, se_7, se_8, se_9, se_10, se_11, se_12, se_13, se_14, se_15, se_16, se_17, se_18, se_19, e_const, e_load, e_store, e_iinc, e_dup, e_dup2, e_pop, e_iadd, e_isub, e_imul, e_ladd, e_lsub, e_lmul, e_iaddw, e_isubw, e_imulw, e_laddw, e_lsubw, e_lmulw, e_iand, e_ior, e_ishl, e_ishr, e_iushr, e_lcmp, e_imax, e_imin, e_idiv, e_irem, e_ldiv, e_lrem, e_i2l, e_i2b, e_l2i, e_i2c, e_getF, e_getR, e_putF, e_putR, e_putz, e_ald, e_aldR, e_ast, e_astb, e_astz, e_asta, e_len, e_acopy, e_new, e_newa, e_mna, e_this, e_room, e_call0, e_callv0, e_call1, e_callv1, e_inv1, e_invv1, e_call2, e_callv2, e_inv2, e_invv2, e_call3, e_callv3, e_inv3, e_invv3, e_call4, e_callv4, e_inv4, e_invv4, e_call5, e_callv5, e_inv5, e_invv5, e_call6, e_callv6, e_inv6, e_invv6, e_call7, e_callv7, e_inv7, e_invv7, e_call8, e_callv8, e_inv8, e_invv8, e_ret, e_retz, e_retc, e_retb, e_retv, e_skip, e_sco, e_tlen, e_tat, e_iz_eq0, e_iz_eq1, e_iz_ne0, e_iz_ne1, add0, sc_d, sc_t, inI_e, inL_e, up_eq, true_or, or_true, or_false, false_or, and_true, true_and, not_false_eq_true, Int.reduceAdd, Int.reduceSub, Int.reduceMul, Int.reduceNeg]
  unfold L_X3_allBear_7
  refine lpw (fun n l st h c s => ∃ i : Int, l = [f, t, r0, r1, i] ∧ st = [] ∧ h = (L, R, F, E, N) ∧ min r0 r1 ≤ i ∧ (n : Int) = max r0 r1 + 1 - i ∧ ∀ q : Int, min r0 r1 ≤ q → q < i → bornP C th q) ?_ (n := (max r0 r1 + 1 - min r0 r1).toNat) ⟨min r0 r1, rfl, rfl, rfl, by omega, by omega, fun g _ _ => by omega⟩
  rintro n k hk l st h c s ⟨i, rfl, rfl, rfl, hi, hn, hinv⟩
  repeat' first
    | exact absurd hc (by decide)
    | with_reducible refine sX_ringBears hT hM hW hTt hm hth ?_ ?_ (fun hb => ?_) (fun hb => ?_)
    | simp (disch := omega) only [ue_X3_allBear, t_X3_allBear, zLg, zRf, zFq, zEl, zNz, zUf, zUe, zUr, zCe, zSn, gd_0, gd_1, gd_2, gd_3, gd_4, gd_5, gd_6, gd_7, gd_8, gd_9, gd_10, gd_11, gd_12, gd_13, gd_14, gd_15, gd_16, gd_17, gd_18, gd_19, se_0, se_1, se_2, se_3, se_4, se_5, se_6, se_7, se_8, se_9, se_10, se_11, se_12, se_13, se_14, se_15, se_16, se_17, se_18, se_19, e_const, e_load, e_store, e_iinc, e_dup, e_dup2, e_pop, e_iadd, e_isub, e_imul, e_ladd, e_lsub, e_lmul, e_iaddw, e_isubw, e_imulw, e_laddw, e_lsubw, e_lmulw, e_iand, e_ior, e_ishl, e_ishr, e_iushr, e_lcmp, e_imax, e_imin, e_idiv, e_irem, e_ldiv, e_lrem, e_i2l, e_i2b, e_l2i, e_i2c, e_getF, e_getR, e_putF, e_putR, e_putz, e_ald, e_aldR, e_ast, e_astb, e_astz, e_asta, e_len, e_acopy, e_new, e_newa, e_mna, e_this, e_room, e_call0, e_callv0, e_call1, e_callv1, e_inv1, e_invv1, e_call2, e_callv2, e_inv2, e_invv2, e_call3, e_callv3, e_inv3, e_invv3, e_call4, e_callv4, e_inv4, e_invv4, e_call5, e_callv5, e_inv5, e_invv5, e_call6, e_callv6, e_inv6, e_invv6, e_call7, e_callv7, e_inv7, e_invv7, e_call8, e_callv8, e_inv8, e_invv8, e_ret, e_retz, e_retc, e_retb, e_retv, e_skip, e_sco, e_tlen, e_tat, e_iz_eq0, e_iz_eq1, e_iz_ne0, e_iz_ne1, add0, sc_d, sc_t, inI_e, inL_e, up_eq, true_or, or_true, or_false, false_or, and_true, true_and, not_false_eq_true, Int.reduceAdd, Int.reduceSub, Int.reduceMul, Int.reduceNeg, hRf]
    | with_reducible first | refine ic_ge (fun hc => ?_) (fun hc => ?_) | refine ic_lt (fun hc => ?_) (fun hc => ?_) | refine ic_ne (fun hc => ?_) (fun hc => ?_) | refine ic_eq (fun hc => ?_) (fun hc => ?_) | refine ic_le (fun hc => ?_) (fun hc => ?_) | refine ic_gt (fun hc => ?_) (fun hc => ?_) | refine iz_eq (fun hc => ?_) (fun hc => ?_) | refine iz_ne (fun hc => ?_) (fun hc => ?_) | refine iz_lt (fun hc => ?_) (fun hc => ?_) | refine iz_ge (fun hc => ?_) (fun hc => ?_) | refine iz_gt (fun hc => ?_) (fun hc => ?_) | refine iz_le (fun hc => ?_) (fun hc => ?_) | refine iz_nu (fun hc => ?_) (fun hc => ?_) | refine iz_nn (fun hc => ?_) (fun hc => ?_)
    | omega
    | (exfalso; omega)
  · exact h1 fun q z1 z2 => hinv q z1 (by omega)
  · refine hk (n - 1) _ _ _ _ _ (by omega) ⟨i + 1, rfl, rfl, rfl, by omega, by omega, fun q z1 z2 => ?_⟩
    by_cases z : q = i
    · subst z; exact hb
    · exact hinv q z1 (by omega)
  · exact h0 fun z => hb (z i hi (by omega))
theorem sX_restFromLast (hf : fnT f L R) (hRf : R f 0 = a) (hT : ctT a L R) (hM : ctM a C F E) (hW : ctW C) (hth : thW th) (hsep : a + 105 ≤ f) (hprc : prcE C th f E) {r0 r1 p1 : Int} (hp : 0 ≤ p1 ∧ p1 < 12) {kk : Int} (hQ : ∀ E' : Int → Int → Int, resE f C (orng r0 r1 kk) E E' (lstP C th r0 r1 (frmP C th r0 r1 p1 0) kk) (fun g => nxtP C th r0 r1 p1 0 (C 2 g 1)) → Q 0 (L, R, F, E', N)) : T_X3_restFromLast [f, orng r0 r1 kk, p1] (L, R, F, E, N) Q := by
  obtain ⟨f0, f3, f4, f5, l1, l2, l3⟩ := hf
  have hXF : XF = 1125899906842624 := rfl
  have pa := ct_p hT
  have b1 := cw_1 hW
  simp (disch := omega) only [ub_X3_restFromLast_79, ub_X3_restFromLast_78, ue_X3_restFromLast, t_X3_restFromLast, zLg, zRf, zFq, zEl, zNz, zUf, zUe, zUr, zCe, zSn, gd_0, gd_1, gd_2, gd_3, gd_4, gd_5, gd_6, gd_7, gd_8, gd_9, gd_10, gd_11, gd_12, gd_13, gd_14, gd_15, gd_16, gd_17, gd_18, gd_19, se_0, se_1, se_2, se_3, se_4, se_5, se_6, se_7, se_8, se_9, se_10, se_11, se_12, se_13, se_14, se_15, se_16, se_17, se_18, se_19, e_const, e_load, e_store, e_iinc, e_dup, e_dup2, e_pop, e_iadd, e_isub, e_imul, e_ladd, e_lsub, e_lmul, e_iaddw, e_isubw, e_imulw, e_laddw, e_lsubw, e_lmulw, e_iand, e_ior, e_ishl, e_ishr, e_iushr, e_lcmp, e_imax, e_imin, e_idiv, e_irem, e_ldiv, e_lrem, e_i2l, e_i2b, e_l2i, e_i2c, e_getF, e_getR, e_putF, e_putR, e_putz, e_ald, e_aldR, e_ast, e_astb, e_astz, e_asta, e_len, e_acopy, e_new, e_newa, e_mna, e_this, e_room, e_call0, e_callv0, e_call1, e_callv1, e_inv1, e_invv1, e_call2, e_callv2, e_inv2, e_invv2, e_call3, e_callv3, e_inv3, e_invv3, e_call4, e_callv4, e_inv4, e_invv4, e_call5, e_callv5, e_inv5, e_invv5, e_call6, e_callv6, e_inv6, e_invv6, e_call7, e_callv7, e_inv7, e_invv7, e_call8, e_callv8, e_inv8, e_invv8, e_ret, e_retz, e_retc, e_retb, e_retv, e_skip, e_sco, e_tlen, e_tat, e_iz_eq0, e_iz_eq1, e_iz_ne0, e_iz_ne1, add0, sc_d, sc_t, inI_e, inL_e, up_eq, true_or, or_true, or_false, false_or, and_true, true_and, not_false_eq_true, Int.reduceAdd, Int.reduceSub, Int.reduceMul, Int.reduceNeg]
  unfold L_X3_restFromLast_2
  refine lpw (fun n l st h c s => ∃ (i : Int) (E' : Int → Int → Int), l = [f, orng r0 r1 kk, p1, i] ∧ st = [] ∧ h = (L, R, F, E', N) ∧ 0 ≤ i ∧ i ≤ C 0 1 0 ∧ (n : Int) = C 0 1 0 - i ∧ (∀ b j : Int, b ≠ f + 2 → b ≠ f + 3 → E' b j = E b j) ∧ (∀ g : Int, 0 ≤ g → g < i → C 2 g 0 = orng r0 r1 kk → E' (f + 2) g = cv (lstP C th r0 r1 (frmP C th r0 r1 p1 0) kk g) ∧ E' (f + 3) g = -1) ∧ (∀ g : Int, C 2 g 0 ≠ orng r0 r1 kk → E' (f + 2) g = E (f + 2) g ∧ E' (f + 3) g = E (f + 3) g)) ?_ (n := (C 0 1 0).toNat) ⟨0, E, rfl, rfl, rfl, by omega, by omega, by omega, fun _ _ _ _ => rfl, fun g _ _ => by omega, fun _ _ => ⟨rfl, rfl⟩⟩
  rintro n k hk l st h c s ⟨i, E', rfl, rfl, rfl, hi, hi2, hn, hfr, hinv, hoff⟩
  have hfi : frI f (f + 4) E E' := fun b j z => hfr b j (by omega) (by omega)
  have hM' := hM.fi hW (frI.rf (lo := f) (hi := f + 4)) hfi (by omega)
  clear hM
  by_cases hlt : i < C 0 1 0
  · have g1 := cw_g1 hW i hi hlt
    have gc := gcost_b hW hth hi hlt
    have hh := hrsB hW hth hi hlt
    have g5 := cw_g5 hW i hi hlt
    have pp : 0 ≤ payP C th i ∧ payP C th i ≤ 206 := by unfold payP; omega
    have rb := rnd_b g1.1 g1.2 hp.1 hp.2
    have ep : E' (f + 1) i = if C 2 i 6 = 0 ∧ barsP C th i = 0 then payP C th i * 1000 + hrsP C th i else 1000000000 := (hfr _ _ (by omega) (by omega)).trans (hprc i hi hlt)
    by_cases hring : C 2 i 0 = orng r0 r1 kk
    · have next : ∀ v : Int, v = cv (lstP C th r0 r1 (frmP C th r0 r1 p1 0) kk i) → k [f, orng r0 r1 kk, p1, i + 1] [] (L, R, F, up (up E' (f + 3) i (-1)) (f + 2) i v, N) c s := fun v ev => by
        refine hk (n - 1) _ _ _ _ _ (by omega) ⟨i + 1, _, rfl, rfl, rfl, by omega, by omega, by omega, fun b j z1 z2 => (up_ne (by omega)).trans ((up_ne (by omega)).trans (hfr b j z1 z2)), fun g z1 z2 z3 => ?_, fun g z => ?_⟩
        · by_cases z : g = i
          · subst z
            rw [up_eq, up_ne (by omega), up_eq]
            exact ⟨ev, rfl⟩
          · rw [up_ne (by omega), up_ne (by omega), up_ne (by omega), up_ne (by omega)]
            exact hinv g z1 (by omega) z3
        · have : g ≠ i := fun w => z (by rw [w]; exact hring)
          rw [up_ne (by omega), up_ne (by omega), up_ne (by omega), up_ne (by omega)]
          exact hoff g z
      have el : lstP C th r0 r1 (frmP C th r0 r1 p1 0) kk i = if (C 2 i 0 = orng r0 r1 kk ∧ C 2 i 6 = 0 ∧ barsP C th i = 0) ∧ rnd (C 2 i 1) p1 < XF then gcost C th i + rnd (C 2 i 1) p1 else XF := rfl
      by_cases ho : C 2 i 6 = 0 ∧ barsP C th i = 0
      · rw [if_pos ho] at ep
        rw [if_pos ⟨⟨hring, ho⟩, by omega⟩] at el
        have ecv : payP C th i * 1000 + hrsP C th i + rnd (C 2 i 1) p1 = cv (lstP C th r0 r1 (frmP C th r0 r1 p1 0) kk i) := by
          rw [el]
          unfold cv gcost
          rw [if_pos (by omega)]
          omega
        repeat' first
          | exact absurd hc (by decide)
          | with_reducible refine sX_apart ?_ ?_ ?_ ?_ ?_
          | simp (disch := omega) only [ub_X3_restFromLast_79, ub_X3_restFromLast_78, ue_X3_restFromLast, t_X3_restFromLast, zLg, zRf, zFq, zEl, zNz, zUf, zUe, zUr, zCe, zSn, gd_0, gd_1, gd_2, gd_3, gd_4, gd_5, gd_6, gd_7, gd_8, gd_9, gd_10, gd_11, gd_12, gd_13, gd_14, gd_15, gd_16, gd_17, gd_18, gd_19, se_0, se_1, se_2, se_3, se_4, se_5, se_6, se_7, se_8, se_9, se_10, se_11, se_12, se_13, se_14, se_15, se_16, se_17, se_18, se_19, e_const, e_load, e_store, e_iinc, e_dup, e_dup2, e_pop, e_iadd, e_isub, e_imul, e_ladd, e_lsub, e_lmul, e_iaddw, e_isubw, e_imulw, e_laddw, e_lsubw, e_lmulw, e_iand, e_ior, e_ishl, e_ishr, e_iushr, e_lcmp, e_imax, e_imin, e_idiv, e_irem, e_ldiv, e_lrem, e_i2l, e_i2b, e_l2i, e_i2c, e_getF, e_getR, e_putF, e_putR, e_putz, e_ald, e_aldR, e_ast, e_astb, e_astz, e_asta, e_len, e_acopy, e_new, e_newa, e_mna, e_this, e_room, e_call0, e_callv0, e_call1, e_callv1, e_inv1, e_invv1, e_call2, e_callv2, e_inv2, e_invv2, e_call3, e_callv3, e_inv3, e_invv3, e_call4, e_callv4, e_inv4, e_invv4, e_call5, e_callv5, e_inv5, e_invv5, e_call6, e_callv6, e_inv6, e_invv6, e_call7, e_callv7, e_inv7, e_invv7, e_call8, e_callv8, e_inv8, e_invv8, e_ret, e_retz, e_retc, e_retb, e_retv, e_skip, e_sco, e_tlen, e_tat, e_iz_eq0, e_iz_eq1, e_iz_ne0, e_iz_ne1, add0, sc_d, sc_t, inI_e, inL_e, up_eq, true_or, or_true, or_false, false_or, and_true, true_and, not_false_eq_true, Int.reduceAdd, Int.reduceSub, Int.reduceMul, Int.reduceNeg, up_ne, hRf, f3, f4, f5, l1, l2, l3, ep, hring, ct_5 hT, ct_6 hT, ct_7 hT, ct_8 hT, ct_9 hT, ct_10 hT, ct_11 hT, ct_l1 hT, ct_l2 hT, ct_l14 hT, ct_l23 hT, ct_l30 hT, ct_l39 hT, ct_l40 hT, ct_gr hT, ct_gl hT, ct_cr hT, ct_cl hT, ct_sr hT, ct_sl hT, ct_or hT, ct_ol hT, ct_wr hT, ct_pr hT, cm_1 hM', cm_g hM']
          | with_reducible first | refine ic_ge (fun hc => ?_) (fun hc => ?_) | refine ic_lt (fun hc => ?_) (fun hc => ?_) | refine ic_ne (fun hc => ?_) (fun hc => ?_) | refine ic_eq (fun hc => ?_) (fun hc => ?_) | refine ic_le (fun hc => ?_) (fun hc => ?_) | refine ic_gt (fun hc => ?_) (fun hc => ?_) | refine iz_eq (fun hc => ?_) (fun hc => ?_) | refine iz_ne (fun hc => ?_) (fun hc => ?_) | refine iz_lt (fun hc => ?_) (fun hc => ?_) | refine iz_ge (fun hc => ?_) (fun hc => ?_) | refine iz_gt (fun hc => ?_) (fun hc => ?_) | refine iz_le (fun hc => ?_) (fun hc => ?_) | refine iz_nu (fun hc => ?_) (fun hc => ?_) | refine iz_nn (fun hc => ?_) (fun hc => ?_)
          | omega
          | (exfalso; omega)
        exact next _ ecv
      · rw [if_neg ho] at ep
        rw [if_neg (fun z => ho z.1.2)] at el
        repeat' first
          | exact absurd hc (by decide)
          | simp (disch := omega) only [ub_X3_restFromLast_79, ub_X3_restFromLast_78, ue_X3_restFromLast, t_X3_restFromLast, zLg, zRf, zFq, zEl, zNz, zUf, zUe, zUr, zCe, zSn, gd_0, gd_1, gd_2, gd_3, gd_4, gd_5, gd_6, gd_7, gd_8, gd_9, gd_10, gd_11, gd_12, gd_13, gd_14, gd_15, gd_16, gd_17, gd_18, gd_19, se_0, se_1, se_2, se_3, se_4, se_5, se_6, se_7, se_8, se_9, se_10, se_11, se_12, se_13, se_14, se_15, se_16, se_17, se_18, se_19, e_const, e_load, e_store, e_iinc, e_dup, e_dup2, e_pop, e_iadd, e_isub, e_imul, e_ladd, e_lsub, e_lmul, e_iaddw, e_isubw, e_imulw, e_laddw, e_lsubw, e_lmulw, e_iand, e_ior, e_ishl, e_ishr, e_iushr, e_lcmp, e_imax, e_imin, e_idiv, e_irem, e_ldiv, e_lrem, e_i2l, e_i2b, e_l2i, e_i2c, e_getF, e_getR, e_putF, e_putR, e_putz, e_ald, e_aldR, e_ast, e_astb, e_astz, e_asta, e_len, e_acopy, e_new, e_newa, e_mna, e_this, e_room, e_call0, e_callv0, e_call1, e_callv1, e_inv1, e_invv1, e_call2, e_callv2, e_inv2, e_invv2, e_call3, e_callv3, e_inv3, e_invv3, e_call4, e_callv4, e_inv4, e_invv4, e_call5, e_callv5, e_inv5, e_invv5, e_call6, e_callv6, e_inv6, e_invv6, e_call7, e_callv7, e_inv7, e_invv7, e_call8, e_callv8, e_inv8, e_invv8, e_ret, e_retz, e_retc, e_retb, e_retv, e_skip, e_sco, e_tlen, e_tat, e_iz_eq0, e_iz_eq1, e_iz_ne0, e_iz_ne1, add0, sc_d, sc_t, inI_e, inL_e, up_eq, true_or, or_true, or_false, false_or, and_true, true_and, not_false_eq_true, Int.reduceAdd, Int.reduceSub, Int.reduceMul, Int.reduceNeg, up_ne, hRf, f3, f4, f5, l1, l2, l3, ep, hring, ct_5 hT, ct_6 hT, ct_7 hT, ct_8 hT, ct_9 hT, ct_10 hT, ct_11 hT, ct_l1 hT, ct_l2 hT, ct_l14 hT, ct_l23 hT, ct_l30 hT, ct_l39 hT, ct_l40 hT, ct_gr hT, ct_gl hT, ct_cr hT, ct_cl hT, ct_sr hT, ct_sl hT, ct_or hT, ct_ol hT, ct_wr hT, ct_pr hT, cm_1 hM', cm_g hM']
          | with_reducible first | refine ic_ge (fun hc => ?_) (fun hc => ?_) | refine ic_lt (fun hc => ?_) (fun hc => ?_) | refine ic_ne (fun hc => ?_) (fun hc => ?_) | refine ic_eq (fun hc => ?_) (fun hc => ?_) | refine ic_le (fun hc => ?_) (fun hc => ?_) | refine ic_gt (fun hc => ?_) (fun hc => ?_) | refine iz_eq (fun hc => ?_) (fun hc => ?_) | refine iz_ne (fun hc => ?_) (fun hc => ?_) | refine iz_lt (fun hc => ?_) (fun hc => ?_) | refine iz_ge (fun hc => ?_) (fun hc => ?_) | refine iz_gt (fun hc => ?_) (fun hc => ?_) | refine iz_le (fun hc => ?_) (fun hc => ?_) | refine iz_nu (fun hc => ?_) (fun hc => ?_) | refine iz_nn (fun hc => ?_) (fun hc => ?_)
          | omega
          | (exfalso; omega)
        exact next _ (by rw [el]; rfl)
    · repeat' first
        | exact absurd hc (by decide)
        | simp (disch := omega) only [ub_X3_restFromLast_79, ub_X3_restFromLast_78, ue_X3_restFromLast, t_X3_restFromLast, zLg, zRf, zFq, zEl, zNz, zUf, zUe, zUr, zCe, zSn, gd_0, gd_1, gd_2, gd_3, gd_4, gd_5, gd_6, gd_7, gd_8, gd_9, gd_10, gd_11, gd_12, gd_13, gd_14, gd_15, gd_16, gd_17, gd_18, gd_19, se_0, se_1, se_2, se_3, se_4, se_5, se_6, se_7, se_8, se_9, se_10, se_11, se_12, se_13, se_14, se_15, se_16, se_17, se_18, se_19, e_const, e_load, e_store, e_iinc, e_dup, e_dup2, e_pop, e_iadd, e_isub, e_imul, e_ladd, e_lsub, e_lmul, e_iaddw, e_isubw, e_imulw, e_laddw, e_lsubw, e_lmulw, e_iand, e_ior, e_ishl, e_ishr, e_iushr, e_lcmp, e_imax, e_imin, e_idiv, e_irem, e_ldiv, e_lrem, e_i2l, e_i2b, e_l2i, e_i2c, e_getF, e_getR, e_putF, e_putR, e_putz, e_ald, e_aldR, e_ast, e_astb, e_astz, e_asta, e_len, e_acopy, e_new, e_newa, e_mna, e_this, e_room, e_call0, e_callv0, e_call1, e_callv1, e_inv1, e_invv1, e_call2, e_callv2, e_inv2, e_invv2, e_call3, e_callv3, e_inv3, e_invv3, e_call4, e_callv4, e_inv4, e_invv4, e_call5, e_callv5, e_inv5, e_invv5, e_call6, e_callv6, e_inv6, e_invv6, e_call7, e_callv7, e_inv7, e_invv7, e_call8, e_callv8, e_inv8, e_invv8, e_ret, e_retz, e_retc, e_retb, e_retv, e_skip, e_sco, e_tlen, e_tat, e_iz_eq0, e_iz_eq1, e_iz_ne0, e_iz_ne1, add0, sc_d, sc_t, inI_e, inL_e, up_eq, true_or, or_true, or_false, false_or, and_true, true_and, not_false_eq_true, Int.reduceAdd, Int.reduceSub, Int.reduceMul, Int.reduceNeg, hRf, ct_5 hT, ct_6 hT, ct_7 hT, ct_8 hT, ct_9 hT, ct_10 hT, ct_11 hT, ct_l1 hT, ct_l2 hT, ct_l14 hT, ct_l23 hT, ct_l30 hT, ct_l39 hT, ct_l40 hT, ct_gr hT, ct_gl hT, ct_cr hT, ct_cl hT, ct_sr hT, ct_sl hT, ct_or hT, ct_ol hT, ct_wr hT, ct_pr hT, cm_1 hM', cm_g hM']
        | with_reducible first | refine ic_ge (fun hc => ?_) (fun hc => ?_) | refine ic_lt (fun hc => ?_) (fun hc => ?_) | refine ic_ne (fun hc => ?_) (fun hc => ?_) | refine ic_eq (fun hc => ?_) (fun hc => ?_) | refine ic_le (fun hc => ?_) (fun hc => ?_) | refine ic_gt (fun hc => ?_) (fun hc => ?_) | refine iz_eq (fun hc => ?_) (fun hc => ?_) | refine iz_ne (fun hc => ?_) (fun hc => ?_) | refine iz_lt (fun hc => ?_) (fun hc => ?_) | refine iz_ge (fun hc => ?_) (fun hc => ?_) | refine iz_gt (fun hc => ?_) (fun hc => ?_) | refine iz_le (fun hc => ?_) (fun hc => ?_) | refine iz_nu (fun hc => ?_) (fun hc => ?_) | refine iz_nn (fun hc => ?_) (fun hc => ?_)
        | omega
        | (exfalso; omega)
      refine hk (n - 1) _ _ _ _ _ (by omega) ⟨i + 1, _, rfl, rfl, rfl, by omega, by omega, by omega, hfr, fun g z1 z2 z3 => ?_, hoff⟩
      exact hinv g z1 (by have : g ≠ i := fun w => hring (by rw [← w]; exact z3); omega) z3
  · repeat' first
      | exact absurd hc (by decide)
      | simp (disch := omega) only [ub_X3_restFromLast_79, ub_X3_restFromLast_78, ue_X3_restFromLast, t_X3_restFromLast, zLg, zRf, zFq, zEl, zNz, zUf, zUe, zUr, zCe, zSn, gd_0, gd_1, gd_2, gd_3, gd_4, gd_5, gd_6, gd_7, gd_8, gd_9, gd_10, gd_11, gd_12, gd_13, gd_14, gd_15, gd_16, gd_17, gd_18, gd_19, se_0, se_1, se_2, se_3, se_4, se_5, se_6, se_7, se_8, se_9, se_10, se_11, se_12, se_13, se_14, se_15, se_16, se_17, se_18, se_19, e_const, e_load, e_store, e_iinc, e_dup, e_dup2, e_pop, e_iadd, e_isub, e_imul, e_ladd, e_lsub, e_lmul, e_iaddw, e_isubw, e_imulw, e_laddw, e_lsubw, e_lmulw, e_iand, e_ior, e_ishl, e_ishr, e_iushr, e_lcmp, e_imax, e_imin, e_idiv, e_irem, e_ldiv, e_lrem, e_i2l, e_i2b, e_l2i, e_i2c, e_getF, e_getR, e_putF, e_putR, e_putz, e_ald, e_aldR, e_ast, e_astb, e_astz, e_asta, e_len, e_acopy, e_new, e_newa, e_mna, e_this, e_room, e_call0, e_callv0, e_call1, e_callv1, e_inv1, e_invv1, e_call2, e_callv2, e_inv2, e_invv2, e_call3, e_callv3, e_inv3, e_invv3, e_call4, e_callv4, e_inv4, e_invv4, e_call5, e_callv5, e_inv5, e_invv5, e_call6, e_callv6, e_inv6, e_invv6, e_call7, e_callv7, e_inv7, e_invv7, e_call8, e_callv8, e_inv8, e_invv8, e_ret, e_retz, e_retc, e_retb, e_retv, e_skip, e_sco, e_tlen, e_tat, e_iz_eq0, e_iz_eq1, e_iz_ne0, e_iz_ne1, add0, sc_d, sc_t, inI_e, inL_e, up_eq, true_or, or_true, or_false, false_or, and_true, true_and, not_false_eq_true, Int.reduceAdd, Int.reduceSub, Int.reduceMul, Int.reduceNeg, hRf, cm_1 hM']
      | with_reducible first | refine ic_ge (fun hc => ?_) (fun hc => ?_) | refine ic_lt (fun hc => ?_) (fun hc => ?_) | refine ic_ne (fun hc => ?_) (fun hc => ?_) | refine ic_eq (fun hc => ?_) (fun hc => ?_) | refine ic_le (fun hc => ?_) (fun hc => ?_) | refine ic_gt (fun hc => ?_) (fun hc => ?_) | refine iz_eq (fun hc => ?_) (fun hc => ?_) | refine iz_ne (fun hc => ?_) (fun hc => ?_) | refine iz_lt (fun hc => ?_) (fun hc => ?_) | refine iz_ge (fun hc => ?_) (fun hc => ?_) | refine iz_gt (fun hc => ?_) (fun hc => ?_) | refine iz_le (fun hc => ?_) (fun hc => ?_) | refine iz_nu (fun hc => ?_) (fun hc => ?_) | refine iz_nn (fun hc => ?_) (fun hc => ?_)
      | omega
      | (exfalso; omega)
    exact hQ E' ⟨hfr, fun g z1 z2 z3 => hinv g z1 (by omega) z3, hoff⟩
theorem sX_restFrom (hf : fnT f L R) (hRf : R f 0 = a) (hT : ctT a L R) (hM : ctM a C F E) (hW : ctW C) (hth : thW th) (hsep : a + 105 ≤ f) (hprc : prcE C th f E) {r0 r1 p1 : Int} (hp : 0 ≤ p1 ∧ p1 < 12) {j : Nat} (hj : j < 4) (hr : ∀ g : Int, 0 ≤ g → g < C 0 1 0 → C 2 g 0 = orng r0 r1 (nst r0 r1 - (j + 1)) → E (f + 2) g = cv (lstP C th r0 r1 (frmP C th r0 r1 p1 j) (nst r0 r1 - (j + 1)) g)) (hne : orng r0 r1 (nst r0 r1 - (j + 2)) ≠ orng r0 r1 (nst r0 r1 - (j + 1))) (hQ : ∀ F' E' : Int → Int → Int, frI f (f + 4) F F' → resE f C (orng r0 r1 (nst r0 r1 - (j + 2))) E E' (lstP C th r0 r1 (frmP C th r0 r1 p1 (j + 1)) (nst r0 r1 - (j + 2))) (fun g => nxtP C th r0 r1 p1 (j + 1) (C 2 g 1)) → Q 0 (L, R, F', E', N)) : T_X3_restFrom [f, orng r0 r1 (nst r0 r1 - (j + 2)), orng r0 r1 (nst r0 r1 - (j + 1))] (L, R, F, E, N) Q := by
  have hf' := hf
  obtain ⟨f0, f3, f4, f5, l1, l2, l3⟩ := hf'
  have hXF : XF = 1125899906842624 := rfl
  have pa := ct_p hT
  have b1 := cw_1 hW
  have hlb := lsB_of hW hth hp (by omega : j < 5) (r0 := r0) (r1 := r1) (nst r0 r1 - (j + 1))
  generalize hkk : nst r0 r1 - ((j : Int) + 2) = kk at *
  simp (disch := omega) only [ub_X3_restFrom_92, ub_X3_restFrom_91, ub_X3_restFrom_75, ue_X3_restFrom, t_X3_restFrom, zLg, zRf, zFq, zEl, zNz, zUf, zUe, zUr, zCe, zSn, gd_0, gd_1, gd_2, gd_3, gd_4, gd_5, gd_6, gd_7, gd_8, gd_9, gd_10, gd_11, gd_12, gd_13, gd_14, gd_15, gd_16, gd_17, gd_18, gd_19, se_0, se_1, se_2, se_3, se_4, se_5, se_6, se_7, se_8, se_9, se_10, se_11, se_12, se_13, se_14, se_15, se_16, se_17, se_18, se_19, e_const, e_load, e_store, e_iinc, e_dup, e_dup2, e_pop, e_iadd, e_isub, e_imul, e_ladd, e_lsub, e_lmul, e_iaddw, e_isubw, e_imulw, e_laddw, e_lsubw, e_lmulw, e_iand, e_ior, e_ishl, e_ishr, e_iushr, e_lcmp, e_imax, e_imin, e_idiv, e_irem, e_ldiv, e_lrem, e_i2l, e_i2b, e_l2i, e_i2c, e_getF, e_getR, e_putF, e_putR, e_putz, e_ald, e_aldR, e_ast, e_astb, e_astz, e_asta, e_len, e_acopy, e_new, e_newa, e_mna, e_this, e_room, e_call0, e_callv0, e_call1, e_callv1, e_inv1, e_invv1, e_call2, e_callv2, e_inv2, e_invv2, e_call3, e_callv3, e_inv3, e_invv3, e_call4, e_callv4, e_inv4, e_invv4, e_call5, e_callv5, e_inv5, e_invv5, e_call6, e_callv6, e_inv6, e_invv6, e_call7, e_callv7, e_inv7, e_invv7, e_call8, e_callv8, e_inv8, e_invv8, e_ret, e_retz, e_retc, e_retb, e_retv, e_skip, e_sco, e_tlen, e_tat, e_iz_eq0, e_iz_eq1, e_iz_ne0, e_iz_ne1, add0, sc_d, sc_t, inI_e, inL_e, up_eq, true_or, or_true, or_false, false_or, and_true, true_and, not_false_eq_true, Int.reduceAdd, Int.reduceSub, Int.reduceMul, Int.reduceNeg]
  unfold L_X3_restFrom_2
  refine lpw (fun n l st h c s => ∃ (i : Int) (F' E' : Int → Int → Int), l = [f, orng r0 r1 kk, orng r0 r1 (nst r0 r1 - (j + 1)), i] ∧ st = [] ∧ h = (L, R, F', E', N) ∧ 0 ≤ i ∧ i ≤ C 0 1 0 ∧ (n : Int) = C 0 1 0 - i ∧ frI f (f + 4) F F' ∧ (∀ b j : Int, b ≠ f + 2 → b ≠ f + 3 → E' b j = E b j) ∧ (∀ g : Int, 0 ≤ g → g < i → C 2 g 0 = orng r0 r1 kk → E' (f + 2) g = cv (lstP C th r0 r1 (frmP C th r0 r1 p1 (j + 1)) kk g) ∧ E' (f + 3) g = nxtP C th r0 r1 p1 (j + 1) (C 2 g 1)) ∧ (∀ g : Int, C 2 g 0 ≠ orng r0 r1 kk → E' (f + 2) g = E (f + 2) g ∧ E' (f + 3) g = E (f + 3) g)) ?_ (n := (C 0 1 0).toNat) ⟨0, F, E, rfl, rfl, rfl, by omega, by omega, by omega, frI.rf, fun _ _ _ _ => rfl, fun g _ _ => by omega, fun _ _ => ⟨rfl, rfl⟩⟩
  rintro n k hk l st h c s ⟨i, F', E', rfl, rfl, rfl, hi, hi2, hn, hfF, hfr, hinv, hoff⟩
  have hfi : frI f (f + 4) E E' := fun b j z => hfr b j (by omega) (by omega)
  have hM' := hM.fi hW hfF hfi (by omega)
  by_cases hlt : i < C 0 1 0
  · have g1 := cw_g1 hW i hi hlt
    have gc := gcost_b hW hth hi hlt
    have hh := hrsB hW hth hi hlt
    have g5 := cw_g5 hW i hi hlt
    have pp : 0 ≤ payP C th i ∧ payP C th i ≤ 206 := by unfold payP; omega
    have ep : E' (f + 1) i = if C 2 i 6 = 0 ∧ barsP C th i = 0 then payP C th i * 1000 + hrsP C th i else 1000000000 := (hfr _ _ (by omega) (by omega)).trans (hprc i hi hlt)
    by_cases hring : C 2 i 0 = orng r0 r1 kk
    · have bm := frm_gd hW hth (r0 := r0) (r1 := r1) hp (j + 1) (C 2 i 1) g1.1 g1.2 (by omega)
      have bc := cv_b bm (by omega)
      have eF : mnP (vP C (lstP C th r0 r1 (frmP C th r0 r1 p1 j) (nst r0 r1 - (j + 1))) (C 2 i 1)) (C 0 1 0).toNat = frmP C th r0 r1 p1 (j + 1) (C 2 i 1) := rfl
      have eX : ixP (vP C (lstP C th r0 r1 (frmP C th r0 r1 p1 j) (nst r0 r1 - (j + 1))) (C 2 i 1)) (C 0 1 0).toNat = nxtP C th r0 r1 p1 (j + 1) (C 2 i 1) := rfl
      have hr' : ∀ g : Int, 0 ≤ g → g < C 0 1 0 → C 2 g 0 = orng r0 r1 (nst r0 r1 - (j + 1)) → E' (f + 2) g = cv (lstP C th r0 r1 (frmP C th r0 r1 p1 j) (nst r0 r1 - (j + 1)) g) := fun g z1 z2 z3 => ((hoff g (by rw [z3]; exact fun w => hne w.symm)).1).trans (hr g z1 z2 z3)
      have ho' : ∀ g : Int, 0 ≤ g → g < C 0 1 0 → C 2 g 0 ≠ orng r0 r1 (nst r0 r1 - (j + 1)) → lstP C th r0 r1 (frmP C th r0 r1 p1 j) (nst r0 r1 - (j + 1)) g = XF := fun g _ _ z => if_neg fun w => z w.1.1
      have next : ∀ v x : Int, v = cv (lstP C th r0 r1 (frmP C th r0 r1 p1 (j + 1)) kk i) → k [f, orng r0 r1 kk, orng r0 r1 (nst r0 r1 - (j + 1)), i + 1] [] (L, R, up F' f 2 x, up (up E' (f + 3) i (nxtP C th r0 r1 p1 (j + 1) (C 2 i 1))) (f + 2) i v, N) c s := fun v x ev => by
        refine hk (n - 1) _ _ _ _ _ (by omega) ⟨i + 1, _, _, rfl, rfl, rfl, by omega, by omega, by omega, hfF.tr (frI.up (by omega) (by omega)), fun b j z1 z2 => (up_ne (by omega)).trans ((up_ne (by omega)).trans (hfr b j z1 z2)), fun g z1 z2 z3 => ?_, fun g z => ?_⟩
        · by_cases z : g = i
          · subst z
            rw [up_eq, up_ne (by omega), up_eq]
            exact ⟨ev, rfl⟩
          · rw [up_ne (by omega), up_ne (by omega), up_ne (by omega), up_ne (by omega)]
            exact hinv g z1 (by omega) z3
        · have : g ≠ i := fun w => z (by rw [w]; exact hring)
          rw [up_ne (by omega), up_ne (by omega), up_ne (by omega), up_ne (by omega)]
          exact hoff g z
      have el : lstP C th r0 r1 (frmP C th r0 r1 p1 (j + 1)) kk i = if (C 2 i 0 = orng r0 r1 kk ∧ C 2 i 6 = 0 ∧ barsP C th i = 0) ∧ frmP C th r0 r1 p1 (j + 1) (C 2 i 1) < XF then gcost C th i + frmP C th r0 r1 p1 (j + 1) (C 2 i 1) else XF := rfl
      have far : ¬ ((C 2 i 6 = 0 ∧ barsP C th i = 0) ∧ frmP C th r0 r1 p1 (j + 1) (C 2 i 1) < XF) → 1000000000 = cv (lstP C th r0 r1 (frmP C th r0 r1 p1 (j + 1)) kk i) := fun z => by
        rw [el, if_neg (fun w => z ⟨w.1.2, w.2⟩)]
        rfl
      repeat' first
        | exact absurd hc (by decide)
        | (refine sX_firstBest hf hRf hT hM' hW hsep g1.1 g1.2 (j := j + 1) (by omega) hr' ho' hlb ?_; rw [eF, eX])
        | simp (disch := omega) only [ub_X3_restFrom_92, ub_X3_restFrom_91, ub_X3_restFrom_75, ue_X3_restFrom, t_X3_restFrom, zLg, zRf, zFq, zEl, zNz, zUf, zUe, zUr, zCe, zSn, gd_0, gd_1, gd_2, gd_3, gd_4, gd_5, gd_6, gd_7, gd_8, gd_9, gd_10, gd_11, gd_12, gd_13, gd_14, gd_15, gd_16, gd_17, gd_18, gd_19, se_0, se_1, se_2, se_3, se_4, se_5, se_6, se_7, se_8, se_9, se_10, se_11, se_12, se_13, se_14, se_15, se_16, se_17, se_18, se_19, e_const, e_load, e_store, e_iinc, e_dup, e_dup2, e_pop, e_iadd, e_isub, e_imul, e_ladd, e_lsub, e_lmul, e_iaddw, e_isubw, e_imulw, e_laddw, e_lsubw, e_lmulw, e_iand, e_ior, e_ishl, e_ishr, e_iushr, e_lcmp, e_imax, e_imin, e_idiv, e_irem, e_ldiv, e_lrem, e_i2l, e_i2b, e_l2i, e_i2c, e_getF, e_getR, e_putF, e_putR, e_putz, e_ald, e_aldR, e_ast, e_astb, e_astz, e_asta, e_len, e_acopy, e_new, e_newa, e_mna, e_this, e_room, e_call0, e_callv0, e_call1, e_callv1, e_inv1, e_invv1, e_call2, e_callv2, e_inv2, e_invv2, e_call3, e_callv3, e_inv3, e_invv3, e_call4, e_callv4, e_inv4, e_invv4, e_call5, e_callv5, e_inv5, e_invv5, e_call6, e_callv6, e_inv6, e_invv6, e_call7, e_callv7, e_inv7, e_invv7, e_call8, e_callv8, e_inv8, e_invv8, e_ret, e_retz, e_retc, e_retb, e_retv, e_skip, e_sco, e_tlen, e_tat, e_iz_eq0, e_iz_eq1, e_iz_ne0, e_iz_ne1, add0, sc_d, sc_t, inI_e, inL_e, up_eq, true_or, or_true, or_false, false_or, and_true, true_and, not_false_eq_true, Int.reduceAdd, Int.reduceSub, Int.reduceMul, Int.reduceNeg, up_ne, hRf, f3, f4, f5, l1, l2, l3, hring, ct_5 hT, ct_6 hT, ct_7 hT, ct_8 hT, ct_9 hT, ct_10 hT, ct_11 hT, ct_l1 hT, ct_l2 hT, ct_l14 hT, ct_l23 hT, ct_l30 hT, ct_l39 hT, ct_l40 hT, ct_gr hT, ct_gl hT, ct_cr hT, ct_cl hT, ct_sr hT, ct_sl hT, ct_or hT, ct_ol hT, ct_wr hT, ct_pr hT, cm_1 hM', cm_g hM']
        | with_reducible first | refine ic_ge (fun hc => ?_) (fun hc => ?_) | refine ic_lt (fun hc => ?_) (fun hc => ?_) | refine ic_ne (fun hc => ?_) (fun hc => ?_) | refine ic_eq (fun hc => ?_) (fun hc => ?_) | refine ic_le (fun hc => ?_) (fun hc => ?_) | refine ic_gt (fun hc => ?_) (fun hc => ?_) | refine iz_eq (fun hc => ?_) (fun hc => ?_) | refine iz_ne (fun hc => ?_) (fun hc => ?_) | refine iz_lt (fun hc => ?_) (fun hc => ?_) | refine iz_ge (fun hc => ?_) (fun hc => ?_) | refine iz_gt (fun hc => ?_) (fun hc => ?_) | refine iz_le (fun hc => ?_) (fun hc => ?_) | refine iz_nu (fun hc => ?_) (fun hc => ?_) | refine iz_nn (fun hc => ?_) (fun hc => ?_)
        | omega
        | (exfalso; omega)
      · refine next _ _ (far fun z => ?_)
        rw [if_pos z.1] at ep
        omega
      · refine next _ _ ?_
        have ho : C 2 i 6 = 0 ∧ barsP C th i = 0 := by
          apply Decidable.byContradiction
          intro w
          rw [if_neg w] at ep
          omega
        have hv : frmP C th r0 r1 p1 (j + 1) (C 2 i 1) < XF := by omega
        rw [if_pos ho] at ep
        rw [el, if_pos ⟨⟨hring, ho⟩, hv⟩, ep]
        unfold cv gcost
        unfold gdV at bm
        rw [if_pos hv, if_pos (by omega)]
        omega
      · refine next _ _ (far fun z => ?_)
        omega
    · repeat' first
        | exact absurd hc (by decide)
        | simp (disch := omega) only [ub_X3_restFrom_92, ub_X3_restFrom_91, ub_X3_restFrom_75, ue_X3_restFrom, t_X3_restFrom, zLg, zRf, zFq, zEl, zNz, zUf, zUe, zUr, zCe, zSn, gd_0, gd_1, gd_2, gd_3, gd_4, gd_5, gd_6, gd_7, gd_8, gd_9, gd_10, gd_11, gd_12, gd_13, gd_14, gd_15, gd_16, gd_17, gd_18, gd_19, se_0, se_1, se_2, se_3, se_4, se_5, se_6, se_7, se_8, se_9, se_10, se_11, se_12, se_13, se_14, se_15, se_16, se_17, se_18, se_19, e_const, e_load, e_store, e_iinc, e_dup, e_dup2, e_pop, e_iadd, e_isub, e_imul, e_ladd, e_lsub, e_lmul, e_iaddw, e_isubw, e_imulw, e_laddw, e_lsubw, e_lmulw, e_iand, e_ior, e_ishl, e_ishr, e_iushr, e_lcmp, e_imax, e_imin, e_idiv, e_irem, e_ldiv, e_lrem, e_i2l, e_i2b, e_l2i, e_i2c, e_getF, e_getR, e_putF, e_putR, e_putz, e_ald, e_aldR, e_ast, e_astb, e_astz, e_asta, e_len, e_acopy, e_new, e_newa, e_mna, e_this, e_room, e_call0, e_callv0, e_call1, e_callv1, e_inv1, e_invv1, e_call2, e_callv2, e_inv2, e_invv2, e_call3, e_callv3, e_inv3, e_invv3, e_call4, e_callv4, e_inv4, e_invv4, e_call5, e_callv5, e_inv5, e_invv5, e_call6, e_callv6, e_inv6, e_invv6, e_call7, e_callv7, e_inv7, e_invv7, e_call8, e_callv8, e_inv8, e_invv8, e_ret, e_retz, e_retc, e_retb, e_retv, e_skip, e_sco, e_tlen, e_tat, e_iz_eq0, e_iz_eq1, e_iz_ne0, e_iz_ne1, add0, sc_d, sc_t, inI_e, inL_e, up_eq, true_or, or_true, or_false, false_or, and_true, true_and, not_false_eq_true, Int.reduceAdd, Int.reduceSub, Int.reduceMul, Int.reduceNeg, hRf, ct_5 hT, ct_6 hT, ct_7 hT, ct_8 hT, ct_9 hT, ct_10 hT, ct_11 hT, ct_l1 hT, ct_l2 hT, ct_l14 hT, ct_l23 hT, ct_l30 hT, ct_l39 hT, ct_l40 hT, ct_gr hT, ct_gl hT, ct_cr hT, ct_cl hT, ct_sr hT, ct_sl hT, ct_or hT, ct_ol hT, ct_wr hT, ct_pr hT, cm_1 hM', cm_g hM']
        | with_reducible first | refine ic_ge (fun hc => ?_) (fun hc => ?_) | refine ic_lt (fun hc => ?_) (fun hc => ?_) | refine ic_ne (fun hc => ?_) (fun hc => ?_) | refine ic_eq (fun hc => ?_) (fun hc => ?_) | refine ic_le (fun hc => ?_) (fun hc => ?_) | refine ic_gt (fun hc => ?_) (fun hc => ?_) | refine iz_eq (fun hc => ?_) (fun hc => ?_) | refine iz_ne (fun hc => ?_) (fun hc => ?_) | refine iz_lt (fun hc => ?_) (fun hc => ?_) | refine iz_ge (fun hc => ?_) (fun hc => ?_) | refine iz_gt (fun hc => ?_) (fun hc => ?_) | refine iz_le (fun hc => ?_) (fun hc => ?_) | refine iz_nu (fun hc => ?_) (fun hc => ?_) | refine iz_nn (fun hc => ?_) (fun hc => ?_)
        | omega
        | (exfalso; omega)
      refine hk (n - 1) _ _ _ _ _ (by omega) ⟨i + 1, _, _, rfl, rfl, rfl, by omega, by omega, by omega, hfF, hfr, fun g z1 z2 z3 => ?_, hoff⟩
      exact hinv g z1 (by have : g ≠ i := fun w => hring (by rw [← w]; exact z3); omega) z3
  · repeat' first
      | exact absurd hc (by decide)
      | simp (disch := omega) only [ub_X3_restFrom_92, ub_X3_restFrom_91, ub_X3_restFrom_75, ue_X3_restFrom, t_X3_restFrom, zLg, zRf, zFq, zEl, zNz, zUf, zUe, zUr, zCe, zSn, gd_0, gd_1, gd_2, gd_3, gd_4, gd_5, gd_6, gd_7, gd_8, gd_9, gd_10, gd_11, gd_12, gd_13, gd_14, gd_15, gd_16, gd_17, gd_18, gd_19, se_0, se_1, se_2, se_3, se_4, se_5, se_6, se_7, se_8, se_9, se_10, se_11, se_12, se_13, se_14, se_15, se_16, se_17, se_18, se_19, e_const, e_load, e_store, e_iinc, e_dup, e_dup2, e_pop, e_iadd, e_isub, e_imul, e_ladd, e_lsub, e_lmul, e_iaddw, e_isubw, e_imulw, e_laddw, e_lsubw, e_lmulw, e_iand, e_ior, e_ishl, e_ishr, e_iushr, e_lcmp, e_imax, e_imin, e_idiv, e_irem, e_ldiv, e_lrem, e_i2l, e_i2b, e_l2i, e_i2c, e_getF, e_getR, e_putF, e_putR, e_putz, e_ald, e_aldR, e_ast, e_astb, e_astz, e_asta, e_len, e_acopy, e_new, e_newa, e_mna, e_this, e_room, e_call0, e_callv0, e_call1, e_callv1, e_inv1, e_invv1, e_call2, e_callv2, e_inv2, e_invv2, e_call3, e_callv3, e_inv3, e_invv3, e_call4, e_callv4, e_inv4, e_invv4, e_call5, e_callv5, e_inv5, e_invv5, e_call6, e_callv6, e_inv6, e_invv6, e_call7, e_callv7, e_inv7, e_invv7, e_call8, e_callv8, e_inv8, e_invv8, e_ret, e_retz, e_retc, e_retb, e_retv, e_skip, e_sco, e_tlen, e_tat, e_iz_eq0, e_iz_eq1, e_iz_ne0, e_iz_ne1, add0, sc_d, sc_t, inI_e, inL_e, up_eq, true_or, or_true, or_false, false_or, and_true, true_and, not_false_eq_true, Int.reduceAdd, Int.reduceSub, Int.reduceMul, Int.reduceNeg, hRf, cm_1 hM']
      | with_reducible first | refine ic_ge (fun hc => ?_) (fun hc => ?_) | refine ic_lt (fun hc => ?_) (fun hc => ?_) | refine ic_ne (fun hc => ?_) (fun hc => ?_) | refine ic_eq (fun hc => ?_) (fun hc => ?_) | refine ic_le (fun hc => ?_) (fun hc => ?_) | refine ic_gt (fun hc => ?_) (fun hc => ?_) | refine iz_eq (fun hc => ?_) (fun hc => ?_) | refine iz_ne (fun hc => ?_) (fun hc => ?_) | refine iz_lt (fun hc => ?_) (fun hc => ?_) | refine iz_ge (fun hc => ?_) (fun hc => ?_) | refine iz_gt (fun hc => ?_) (fun hc => ?_) | refine iz_le (fun hc => ?_) (fun hc => ?_) | refine iz_nu (fun hc => ?_) (fun hc => ?_) | refine iz_nn (fun hc => ?_) (fun hc => ?_)
      | omega
      | (exfalso; omega)
    exact hQ F' E' hfF ⟨hfr, fun g z1 z2 z3 => hinv g z1 (by omega) z3, hoff⟩
end FIND

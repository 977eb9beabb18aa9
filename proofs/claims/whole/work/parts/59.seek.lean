/-! ===== the class's Finder: the cost, what is kept, seek ===== -/
theorem thT.fi {lo hi t : Int} {L : Int → Int} {R R' : Int → Int → Int} (h : thT t L R) (h1 : frI lo hi R R') (hd : hi ≤ t ∨ t + 1 ≤ lo) : thT t L R' := ⟨tt_p h, (h1 _ _ (by omega)).trans (tt_0 h), (h1 _ _ (by omega)).trans (tt_1 h), (h1 _ _ (by omega)).trans (tt_2 h), tt_l1 h, tt_l2 h, tt_l3 h⟩
theorem ctT.fi {lo hi a : Int} {L : Int → Int} {R R' : Int → Int → Int} (h : ctT a L R) (h1 : frI lo hi R R') (hd : hi ≤ a ∨ a + 105 ≤ lo) : ctT a L R' := ⟨ct_p h, (h1 _ _ (by omega)).trans (ct_5 h), (h1 _ _ (by omega)).trans (ct_6 h), (h1 _ _ (by omega)).trans (ct_7 h), (h1 _ _ (by omega)).trans (ct_8 h), (h1 _ _ (by omega)).trans (ct_9 h), (h1 _ _ (by omega)).trans (ct_10 h), (h1 _ _ (by omega)).trans (ct_11 h), ct_l1 h, ct_l2 h, ct_l14 h, ct_l23 h, ct_l30 h, ct_l39 h, ct_l40 h, fun g x y => (h1 _ _ (by omega)).trans (ct_gr h g x y), ct_gl h, fun g x y => (h1 _ _ (by omega)).trans (ct_cr h g x y), ct_cl h, fun g x y => (h1 _ _ (by omega)).trans (ct_sr h g x y), ct_sl h, fun g x y => (h1 _ _ (by omega)).trans (ct_or h g x y), ct_ol h, fun g x y => (h1 _ _ (by omega)).trans (ct_wr h g x y), fun g x y => (h1 _ _ (by omega)).trans (ct_pr h g x y), fun g x y => (ct_wt h g x y).fi h1 (by omega), fun g x y => (ct_pt h g x y).fi h1 (by omega)⟩
/-- the rows of all gates on the way -/
def chnE (f : Int) (C : Cy) (th : Int → Int) (r0 r1 p1 : Int) (E : Int → Int → Int) : Prop := ∀ j : Nat, (j : Int) < nst r0 r1 → ∀ g : Int, 0 ≤ g → g < C 0 1 0 → C 2 g 0 = orng r0 r1 (nst r0 r1 - (j + 1)) → E (f + 3) g = nxtP C th r0 r1 p1 j (C 2 g 1)
theorem orng_inj {r0 r1 x y : Int} (h : orng r0 r1 x = orng r0 r1 y) : x = y := by
  unfold orng at h
  split at h <;> omega
section SEEK
variable {L : Int → Int} {R F E : Int → Int → Int} {N : Nat} {Q : xQ} {a f t g p r : Int} {C : Cy} {th : Int → Int}
theorem costL (hf : fnT f L R) (hRf : R f 0 = a) (hT : ctT a L R) (hM : ctM a C F E) (hW : ctW C) (hth : thW th) (hsep : a + 105 ≤ f) (hprc : prcE C th f E) {e r0 p0 r1 p1 d bg en : Int} (hr : r0 ≠ r1) (h00 : 0 ≤ r0) (h01 : r0 < 6) (h10 : 0 ≤ r1) (h11 : r1 < 6) (hp : 0 ≤ p1 ∧ p1 < 12) (hp0 : 0 ≤ p0 ∧ p0 < 12) (hd : (d = 1 ∧ r0 < r1 ∧ bg = r0 ∧ en = r1 - 1) ∨ (d = -1 ∧ r1 < r0 ∧ bg = r0 - 1 ∧ en = r1)) (h1 : ∀ g : Int, 0 ≤ g → g < C 0 1 0 → C 2 g 0 = orng r0 r1 (nst r0 r1 - 1) → E (f + 2) g = cv (lstP C th r0 r1 (frmP C th r0 r1 p1 0) (nst r0 r1 - 1) g) ∧ E (f + 3) g = nxtP C th r0 r1 p1 0 (C 2 g 1)) {c s : Nat}
    (hQ : ∀ F' E' : Int → Int → Int, frI f (f + 4) F F' → frI f (f + 4) E E' → F' f 1 = nxtP C th r0 r1 p1 (nst r0 r1).toNat p0 → chnE f C th r0 r1 p1 E' → Q (cv (frmP C th r0 r1 p1 (nst r0 r1).toNat p0)) (L, R, F', E', N)) : L_X3_costOf_84 Q [f, e, r0, r1, p0, d, bg, en, 1] [] (L, R, F, E, N) c s := by
  have hf' := hf
  obtain ⟨f0, f3, f4, f5, l1, l2, l3⟩ := hf'
  have pa := ct_p hT
  have b1 := cw_1 hW
  have nb := nst_b h00 h01 h10 h11
  have hn0 : nst r0 r1 = if r0 < r1 then r1 - r0 else r0 - r1 := rfl
  have n1 : 1 ≤ nst r0 r1 := by rw [hn0]; split <;> omega
  unfold L_X3_costOf_84
  refine lpw (fun n l st h c s => ∃ (j : Nat) (F' E' : Int → Int → Int), l = [f, e, r0, r1, p0, d, bg, en, (j : Int) + 1] ∧ st = [] ∧ h = (L, R, F', E', N) ∧ (j : Int) < nst r0 r1 ∧ (n : Int) = nst r0 r1 - j ∧ frI f (f + 4) F F' ∧ frI f (f + 4) E E' ∧ prcE C th f E' ∧ ∀ q : Nat, q ≤ j → ∀ g : Int, 0 ≤ g → g < C 0 1 0 → C 2 g 0 = orng r0 r1 (nst r0 r1 - (q + 1)) → E' (f + 2) g = cv (lstP C th r0 r1 (frmP C th r0 r1 p1 q) (nst r0 r1 - (q + 1)) g) ∧ E' (f + 3) g = nxtP C th r0 r1 p1 q (C 2 g 1)) ?_ (n := (nst r0 r1).toNat) ⟨0, F, E, rfl, rfl, rfl, by omega, by omega, frI.rf, frI.rf, hprc, fun q hq g x y z => ?_⟩
  · rintro n k hk l st h c s ⟨j, F', E', rfl, rfl, rfl, hj, hn, hfF, hfE, hpr, hinv⟩
    have hM' := hM.fi hW hfF hfE (by omega)
    have stepR : (j : Int) + 1 < nst r0 r1 → T_X3_restFrom [f, en - ((j : Int) + 1) * d, en - ((j : Int) + 1 - 1) * d] (L, R, F', E', N) (fun _ h' => k [f, e, r0, r1, p0, d, bg, en, (j : Int) + 1 + 1] [] h' c s) := fun hlt => by
      have e1 : en - ((j : Int) + 1) * d = orng r0 r1 (nst r0 r1 - (j + 2)) := by
        unfold orng
        rcases hd with ⟨rfl, x1, x2, x3⟩ | ⟨rfl, x1, x2, x3⟩
        · rw [if_pos x1] at hn0 ⊢; omega
        · rw [if_neg (by omega)] at hn0 ⊢; omega
      have e2 : en - ((j : Int) + 1 - 1) * d = orng r0 r1 (nst r0 r1 - (j + 1)) := by
        unfold orng
        rcases hd with ⟨rfl, x1, x2, x3⟩ | ⟨rfl, x1, x2, x3⟩
        · rw [if_pos x1] at hn0 ⊢; omega
        · rw [if_neg (by omega)] at hn0 ⊢; omega
      rw [e1, e2]
      refine sX_restFrom hf hRf hT hM' hW hth hsep hpr hp (j := j) (by omega) (fun g x y z => (hinv j (by omega) g x y z).1) (fun z => by have := orng_inj z; omega) fun F2 E2 g1 g2 => ?_
      obtain ⟨g3, g4, g5⟩ := g2
      refine hk (n - 1) _ _ _ _ _ (by omega) ⟨j + 1, F2, E2, rfl, rfl, rfl, by omega, by omega, hfF.tr g1, hfE.tr fun b q z => g3 b q (by omega) (by omega), fun g x y => (g3 _ _ (by omega) (by omega)).trans (hpr g x y), fun q hq g x y z => ?_⟩
      by_cases hqj : q = j + 1
      · subst hqj
        have e3 : nst r0 r1 - (((j + 1 : Nat) : Int) + 1) = nst r0 r1 - (j + 2) := by omega
        rw [e3] at z ⊢
        exact g4 g x y z
      · have := g5 g (by rw [z]; intro w; have := orng_inj w; omega)
        rw [this.1, this.2]
        exact hinv q (by omega) g x y z
    have hend : ¬ ((j : Int) + 1 < nst r0 r1) → T_X3_firstBest [f, bg, p0] (L, R, F', E', N) (fun v h' => Q (Fq (Uf h' f 1 v) f 2) (Uf h' f 1 v)) := fun hlt => by
      have e1 : bg = orng r0 r1 (nst r0 r1 - (j + 1)) := by
        unfold orng
        rcases hd with ⟨rfl, x1, x2, x3⟩ | ⟨rfl, x1, x2, x3⟩
        · rw [if_pos x1] at hn0 ⊢; omega
        · rw [if_neg (by omega)] at hn0 ⊢; omega
      rw [e1]
      refine sX_firstBest hf hRf hT hM' hW hsep hp0.1 hp0.2 (j := j + 1) (by omega) (fun g x y z => (hinv j (by omega) g x y z).1) (fun g x y z => if_neg fun w => z w.1.1) (lsB_of hW hth hp (by omega) _) ?_
      have e2 : (nst r0 r1).toNat = j + 1 := by omega
      rw [e2] at hQ
      simp (disch := omega) only [zUf, zFq, up_ne, up_eq]
      refine hQ (up (up F' f 2 (cv (mnP (vP C (lstP C th r0 r1 (frmP C th r0 r1 p1 j) (nst r0 r1 - (j + 1))) p0) (C 0 1 0).toNat))) f 1 (ixP (vP C (lstP C th r0 r1 (frmP C th r0 r1 p1 j) (nst r0 r1 - (j + 1))) p0) (C 0 1 0).toNat)) E' (fun b q z => ?_) hfE (up_eq) fun q hq g x y z => (hinv q (by omega) g x y z).2
      rw [up_ne (by omega), up_ne (by omega)]
      exact hfF b q z
    rcases hd with ⟨rfl, x1, x2, x3⟩ | ⟨rfl, x1, x2, x3⟩
    · rw [if_pos x1] at hn0
      repeat' first
        | exact absurd hc (by decide)
        | simp (disch := omega) only [ub_X3_costOf_70, ub_X3_costOf_56, ub_X3_costOf_42, ue_X3_costOf, t_X3_costOf, zLg, zRf, zFq, zEl, zNz, zUf, zUe, zUr, zCe, zSn, gd_0, gd_1, gd_2, gd_3, gd_4, gd_5, gd_6, gd_7, gd_8, gd_9, gd_10, gd_11, gd_12, gd_13, gd_14, gd_15, gd_16, gd_17, gd_18, gd_19, se_0, se_1, se_2, se_3, se_4, se_5, se_6, se_7, se_8, se_9, se_10, se_11, se_12, se_13, se_14, se_15, se_16, se_17, se_18, se_19, e_const, e_load, e_store, e_iinc, e_dup, e_dup2, e_pop, e_iadd, e_isub, e_imul, e_ladd, e_lsub, e_lmul, e_iaddw, e_isubw, e_imulw, e_laddw, e_lsubw, e_lmulw, e_iand, e_ior, e_ishl, e_ishr, e_iushr, e_lcmp, e_imax, e_imin, e_idiv, e_irem, e_ldiv, e_lrem, e_i2l, e_i2b, e_l2i, e_i2c, e_getF, e_getR, e_putF, e_putR, e_putz, e_ald, e_aldR, e_ast, e_astb, e_astz, e_asta, e_len, e_acopy, e_new, e_newa, e_mna, e_this, e_room, e_call0, e_callv0, e_call1, e_callv1, e_inv1, e_invv1, e_call2, e_callv2, e_inv2, e_invv2, e_call3, e_callv3, e_inv3, e_invv3, e_call4, e_callv4, e_inv4, e_invv4, e_call5, e_callv5, e_inv5, e_invv5, e_call6, e_callv6, e_inv6, e_invv6, e_call7, e_callv7, e_inv7, e_invv7, e_call8, e_callv8, e_inv8, e_invv8, e_ret, e_retz, e_retc, e_retb, e_retv, e_skip, e_sco, e_tlen, e_tat, e_iz_eq0, e_iz_eq1, e_iz_ne0, e_iz_ne1, add0, sc_d, sc_t, inI_e, inL_e, up_eq, true_or, or_true, or_false, false_or, and_true, true_and, not_false_eq_true, Int.reduceAdd, Int.reduceSub, Int.reduceMul, Int.reduceNeg]
        | with_reducible first | refine ic_ge (fun hc => ?_) (fun hc => ?_) | refine ic_lt (fun hc => ?_) (fun hc => ?_) | refine ic_ne (fun hc => ?_) (fun hc => ?_) | refine ic_eq (fun hc => ?_) (fun hc => ?_) | refine ic_le (fun hc => ?_) (fun hc => ?_) | refine ic_gt (fun hc => ?_) (fun hc => ?_) | refine iz_eq (fun hc => ?_) (fun hc => ?_) | refine iz_ne (fun hc => ?_) (fun hc => ?_) | refine iz_lt (fun hc => ?_) (fun hc => ?_) | refine iz_ge (fun hc => ?_) (fun hc => ?_) | refine iz_gt (fun hc => ?_) (fun hc => ?_) | refine iz_le (fun hc => ?_) (fun hc => ?_) | refine iz_nu (fun hc => ?_) (fun hc => ?_) | refine iz_nn (fun hc => ?_) (fun hc => ?_)
        | omega
        | (exfalso; omega)
      · exact hend (by omega)
      · exact stepR (by omega)
    · rw [if_neg (by omega)] at hn0
      repeat' first
        | exact absurd hc (by decide)
        | simp (disch := omega) only [ub_X3_costOf_70, ub_X3_costOf_56, ub_X3_costOf_42, ue_X3_costOf, t_X3_costOf, zLg, zRf, zFq, zEl, zNz, zUf, zUe, zUr, zCe, zSn, gd_0, gd_1, gd_2, gd_3, gd_4, gd_5, gd_6, gd_7, gd_8, gd_9, gd_10, gd_11, gd_12, gd_13, gd_14, gd_15, gd_16, gd_17, gd_18, gd_19, se_0, se_1, se_2, se_3, se_4, se_5, se_6, se_7, se_8, se_9, se_10, se_11, se_12, se_13, se_14, se_15, se_16, se_17, se_18, se_19, e_const, e_load, e_store, e_iinc, e_dup, e_dup2, e_pop, e_iadd, e_isub, e_imul, e_ladd, e_lsub, e_lmul, e_iaddw, e_isubw, e_imulw, e_laddw, e_lsubw, e_lmulw, e_iand, e_ior, e_ishl, e_ishr, e_iushr, e_lcmp, e_imax, e_imin, e_idiv, e_irem, e_ldiv, e_lrem, e_i2l, e_i2b, e_l2i, e_i2c, e_getF, e_getR, e_putF, e_putR, e_putz, e_ald, e_aldR, e_ast, e_astb, e_astz, e_asta, e_len, e_acopy, e_new, e_newa, e_mna, e_this, e_room, e_call0, e_callv0, e_call1, e_callv1, e_inv1, e_invv1, e_call2, e_callv2, e_inv2, e_invv2, e_call3, e_callv3, e_inv3, e_invv3, e_call4, e_callv4, e_inv4, e_invv4, e_call5, e_callv5, e_inv5, e_invv5, e_call6, e_callv6, e_inv6, e_invv6, e_call7, e_callv7, e_inv7, e_invv7, e_call8, e_callv8, e_inv8, e_invv8, e_ret, e_retz, e_retc, e_retb, e_retv, e_skip, e_sco, e_tlen, e_tat, e_iz_eq0, e_iz_eq1, e_iz_ne0, e_iz_ne1, add0, sc_d, sc_t, inI_e, inL_e, up_eq, true_or, or_true, or_false, false_or, and_true, true_and, not_false_eq_true, Int.reduceAdd, Int.reduceSub, Int.reduceMul, Int.reduceNeg]
        | with_reducible first | refine ic_ge (fun hc => ?_) (fun hc => ?_) | refine ic_lt (fun hc => ?_) (fun hc => ?_) | refine ic_ne (fun hc => ?_) (fun hc => ?_) | refine ic_eq (fun hc => ?_) (fun hc => ?_) | refine ic_le (fun hc => ?_) (fun hc => ?_) | refine ic_gt (fun hc => ?_) (fun hc => ?_) | refine iz_eq (fun hc => ?_) (fun hc => ?_) | refine iz_ne (fun hc => ?_) (fun hc => ?_) | refine iz_lt (fun hc => ?_) (fun hc => ?_) | refine iz_ge (fun hc => ?_) (fun hc => ?_) | refine iz_gt (fun hc => ?_) (fun hc => ?_) | refine iz_le (fun hc => ?_) (fun hc => ?_) | refine iz_nu (fun hc => ?_) (fun hc => ?_) | refine iz_nn (fun hc => ?_) (fun hc => ?_)
        | omega
        | (exfalso; omega)
      · exact hend (by omega)
      · exact stepR (by omega)
  · have : q = 0 := by omega
    subst this
    exact h1 g x y z
theorem sX_costOf (hf : fnT f L R) (hRf : R f 0 = a) (hT : ctT a L R) (hM : ctM a C F E) (hW : ctW C) (hth : thW th) (hsep : a + 105 ≤ f) (hprc : prcE C th f E) {e r0 p0 r1 p1 : Int} (he : 0 ≤ e) (hel : L e = 6) (e1 : E e 1 = r0) (e2 : E e 2 = p0) (e3 : E e 3 = r1) (e4 : E e 4 = p1) (hee : e < f ∨ f + 4 ≤ e) (h00 : 0 ≤ r0) (h01 : r0 < 6) (h10 : 0 ≤ r1) (h11 : r1 < 6) (hp : 0 ≤ p1 ∧ p1 < 12) (hp0 : 0 ≤ p0 ∧ p0 < 12)
    (hQ : ∀ F' E' : Int → Int → Int, frI f (f + 4) F F' → frI f (f + 4) E E' → F' f 1 = nxtP C th r0 r1 p1 (nst r0 r1).toNat p0 → chnE f C th r0 r1 p1 E' → Q (cv (frmP C th r0 r1 p1 (nst r0 r1).toNat p0)) (L, R, F', E', N)) : T_X3_costOf [f, e] (L, R, F, E, N) Q := by
  have f0 := hf.1
  have hn0 : nst r0 r1 = if r0 < r1 then r1 - r0 else r0 - r1 := rfl
  have hM2 := hM.fi hW (frI.up (F := F) (a := f) (i := 1) (v := -1) (Int.le_refl f) (by omega : f < f + 4)) (frI.rf (lo := f) (hi := f + 4)) (by omega)
  have rest : ∀ d bg en : Int, r0 ≠ r1 → ((d = 1 ∧ r0 < r1 ∧ bg = r0 ∧ en = r1 - 1) ∨ (d = -1 ∧ r1 < r0 ∧ bg = r0 - 1 ∧ en = r1)) → T_X3_restFromLast [f, en, p1] (L, R, up F f 1 (-1), E, N) (fun _ h' => L_X3_costOf_84 Q [f, e, r0, r1, p0, d, bg, en, 1] [] h' 0 0) := fun d bg en hr hd => by
    have ek : en = orng r0 r1 (nst r0 r1 - 1) := by
      unfold orng
      rcases hd with ⟨rfl, x1, x2, x3⟩ | ⟨rfl, x1, x2, x3⟩
      · rw [if_pos x1] at hn0 ⊢; omega
      · rw [if_neg (by omega)] at hn0 ⊢; omega
    have ek2 := ek
    rw [ek]
    refine sX_restFromLast hf hRf hT hM2 hW hth hsep hprc hp fun E' hE => ?_
    obtain ⟨g3, g4, g5⟩ := hE
    have hfE : frI f (f + 4) E E' := fun b q z => g3 b q (by omega) (by omega)
    rw [← ek]
    exact costL hf hRf hT (hM2.fi hW (frI.rf (lo := f) (hi := f + 4)) hfE (by omega)) hW hth hsep (fun g x y => (g3 _ _ (by omega) (by omega)).trans (hprc g x y)) hr h00 h01 h10 h11 hp hp0 hd g4 fun F2 E2 k1 k2 k3 k4 => hQ F2 E2 ((frI.up (by omega) (by omega)).tr k1) (hfE.tr k2) k3 k4
  repeat' first
    | exact absurd hc (by decide)
    | with_reducible refine sX_apart ?_ ?_ ?_ ?_ ?_
    | simp (disch := omega) only [ub_X3_costOf_70, ub_X3_costOf_56, ub_X3_costOf_42, ue_X3_costOf, t_X3_costOf, zLg, zRf, zFq, zEl, zNz, zUf, zUe, zUr, zCe, zSn, gd_0, gd_1, gd_2, gd_3, gd_4, gd_5, gd_6, gd_7, gd_8, gd_9, gd_10, gd_11, gd_12, gd_13, gd_14, gd_15, gd_16, gd_17, gd_18, gd_19, se_0, se_1, se_2, se_3, se_4, se_5, se_6, se_7, se_8, se_9, se_10, se_11, se_12, se_13, se_14, se_15, se_16, se_17, se_18, se_19, e_const, e_load, e_store, e_iinc, e_dup, e_dup2, e_pop, e_iadd, e_isub, e_imul, e_ladd, e_lsub, e_lmul, e_iaddw, e_isubw, e_imulw, e_laddw, e_lsubw, e_lmulw, e_iand, e_ior, e_ishl, e_ishr, e_iushr, e_lcmp, e_imax, e_imin, e_idiv, e_irem, e_ldiv, e_lrem, e_i2l, e_i2b, e_l2i, e_i2c, e_getF, e_getR, e_putF, e_putR, e_putz, e_ald, e_aldR, e_ast, e_astb, e_astz, e_asta, e_len, e_acopy, e_new, e_newa, e_mna, e_this, e_room, e_call0, e_callv0, e_call1, e_callv1, e_inv1, e_invv1, e_call2, e_callv2, e_inv2, e_invv2, e_call3, e_callv3, e_inv3, e_invv3, e_call4, e_callv4, e_inv4, e_invv4, e_call5, e_callv5, e_inv5, e_invv5, e_call6, e_callv6, e_inv6, e_invv6, e_call7, e_callv7, e_inv7, e_invv7, e_call8, e_callv8, e_inv8, e_invv8, e_ret, e_retz, e_retc, e_retb, e_retv, e_skip, e_sco, e_tlen, e_tat, e_iz_eq0, e_iz_eq1, e_iz_ne0, e_iz_ne1, add0, sc_d, sc_t, inI_e, inL_e, up_eq, true_or, or_true, or_false, false_or, and_true, true_and, not_false_eq_true, Int.reduceAdd, Int.reduceSub, Int.reduceMul, Int.reduceNeg, e1, e2, e3, e4, hel, up_ne]
    | with_reducible first | refine ic_ge (fun hc => ?_) (fun hc => ?_) | refine ic_lt (fun hc => ?_) (fun hc => ?_) | refine ic_ne (fun hc => ?_) (fun hc => ?_) | refine ic_eq (fun hc => ?_) (fun hc => ?_) | refine ic_le (fun hc => ?_) (fun hc => ?_) | refine ic_gt (fun hc => ?_) (fun hc => ?_) | refine iz_eq (fun hc => ?_) (fun hc => ?_) | refine iz_ne (fun hc => ?_) (fun hc => ?_) | refine iz_lt (fun hc => ?_) (fun hc => ?_) | refine iz_ge (fun hc => ?_) (fun hc => ?_) | refine iz_gt (fun hc => ?_) (fun hc => ?_) | refine iz_le (fun hc => ?_) (fun hc => ?_) | refine iz_nu (fun hc => ?_) (fun hc => ?_) | refine iz_nn (fun hc => ?_) (fun hc => ?_)
    | omega
    | (exfalso; omega)
  · exact rest (-1) (r0 - 1) r1 (by omega) (by omega)
  · exact rest 1 r0 (r1 - 1) (by omega) (by omega)
  · have hz : nst r0 r1 = 0 := by rw [hn0]; split <;> omega
    have rb := rnd_b hp0.1 hp0.2 hp.1 hp.2
    have := hQ (up F f 1 (-1)) E (frI.up (by omega) (by omega)) frI.rf (by rw [hz, up_eq]; rfl) (fun j hj => by omega)
    rw [hz] at this
    have e9 : cv (frmP C th r0 r1 p1 (Int.toNat 0) p0) = rnd p0 p1 := by
      show cv (rnd p0 p1) = _
      have hXF : XF = 1125899906842624 := rfl
      unfold cv
      rw [if_pos (by omega)]
      omega
    rw [e9] at this
    exact this
/-- where a way lies, what it says -/
def wyT (w : Int) (L : Int → Int) (R : Int → Int → Int) : Prop := 0 ≤ w ∧ R w 6 = w + 1 ∧ L (w + 1) = 5
def wyM (w : Int) (b : Int → Int) (gs : Nat → Int) (F E : Int → Int → Int) : Prop := F w 0 = b 0 ∧ (b 0 = 1 → F w 1 = b 1 ∧ F w 2 = b 2 ∧ F w 3 = b 3 ∧ F w 4 = b 4 ∧ F w 5 = b 5 ∧ ∀ i : Nat, (i : Int) < b 5 → E (w + 1) i = gs i)
theorem sX_thing (hT : ctT a L R) {k cut : Int} (hk0 : 0 ≤ k) (hk1 : k < 8) (h1 : cut ≠ 0 → Q (a + 45 + 8 * k) (L, R, F, E, N)) (h0 : cut = 0 → Q (a + 41 + 8 * k) (L, R, F, E, N)) : T_X1_thing [a, k, cut] (L, R, F, E, N) Q := by
  have pa := ct_p hT
  repeat' first
    | exact absurd hc (by decide)
    | simp (disch := omega) only [ub_X1_thing_19, ue_X1_thing, t_X1_thing, zLg, zRf, zFq, zEl, zNz, zUf, zUe, zUr, zCe, zSn, gd_0, gd_1, gd_2, gd_3, gd_4, gd_5, gd_6, gd_7, gd_8, gd_9, gd_10, gd_11, gd_12, gd_13, gd_14, gd_15, gd_16, gd_17, gd_18, gd_19, se_0, se_1, se_2, se_3, se_4, se_5, se_6, se_7, se_8, se_9, se_10, se_11, se_12, se_13, se_14, se_15, se_16, se_17, se_18, se_19, e_const, e_load, e_store, e_iinc, e_dup, e_dup2, e_pop, e_iadd, e_isub, e_imul, e_ladd, e_lsub, e_lmul, e_iaddw, e_isubw, e_imulw, e_laddw, e_lsubw, e_lmulw, e_iand, e_ior, e_ishl, e_ishr, e_iushr, e_lcmp, e_imax, e_imin, e_idiv, e_irem, e_ldiv, e_lrem, e_i2l, e_i2b, e_l2i, e_i2c, e_getF, e_getR, e_putF, e_putR, e_putz, e_ald, e_aldR, e_ast, e_astb, e_astz, e_asta, e_len, e_acopy, e_new, e_newa, e_mna, e_this, e_room, e_call0, e_callv0, e_call1, e_callv1, e_inv1, e_invv1, e_call2, e_callv2, e_inv2, e_invv2, e_call3, e_callv3, e_inv3, e_invv3, e_call4, e_callv4, e_inv4, e_invv4, e_call5, e_callv5, e_inv5, e_invv5, e_call6, e_callv6, e_inv6, e_invv6, e_call7, e_callv7, e_inv7, e_invv7, e_call8, e_callv8, e_inv8, e_invv8, e_ret, e_retz, e_retc, e_retb, e_retv, e_skip, e_sco, e_tlen, e_tat, e_iz_eq0, e_iz_eq1, e_iz_ne0, e_iz_ne1, add0, sc_d, sc_t, inI_e, inL_e, up_eq, true_or, or_true, or_false, false_or, and_true, true_and, not_false_eq_true, Int.reduceAdd, Int.reduceSub, Int.reduceMul, Int.reduceNeg, ct_5 hT, ct_6 hT, ct_7 hT, ct_8 hT, ct_9 hT, ct_10 hT, ct_11 hT, ct_l1 hT, ct_l2 hT, ct_l14 hT, ct_l23 hT, ct_l30 hT, ct_l39 hT, ct_l40 hT, ct_gr hT, ct_gl hT, ct_cr hT, ct_cl hT, ct_sr hT, ct_sl hT, ct_or hT, ct_ol hT, ct_wr hT, ct_pr hT]
    | with_reducible first | refine ic_ge (fun hc => ?_) (fun hc => ?_) | refine ic_lt (fun hc => ?_) (fun hc => ?_) | refine ic_ne (fun hc => ?_) (fun hc => ?_) | refine ic_eq (fun hc => ?_) (fun hc => ?_) | refine ic_le (fun hc => ?_) (fun hc => ?_) | refine ic_gt (fun hc => ?_) (fun hc => ?_) | refine iz_eq (fun hc => ?_) (fun hc => ?_) | refine iz_ne (fun hc => ?_) (fun hc => ?_) | refine iz_lt (fun hc => ?_) (fun hc => ?_) | refine iz_ge (fun hc => ?_) (fun hc => ?_) | refine iz_gt (fun hc => ?_) (fun hc => ?_) | refine iz_le (fun hc => ?_) (fun hc => ?_) | refine iz_nu (fun hc => ?_) (fun hc => ?_) | refine iz_nn (fun hc => ?_) (fun hc => ?_)
    | omega
    | (exfalso; omega)
  · exact h0 hc
  · exact h1 hc
theorem sX_isBeatenBy {w x y : Int} (hw : 0 ≤ w) (h1 : F w 0 = 0 ∨ x < F w 2 ∨ (x = F w 2 ∧ y < F w 3) → Q 1 (L, R, F, E, N)) (h0 : ¬ (F w 0 = 0 ∨ x < F w 2 ∨ (x = F w 2 ∧ y < F w 3)) → Q 0 (L, R, F, E, N)) : T_X7_isBeatenBy [w, x, y] (L, R, F, E, N) Q := by
  repeat' first
    | exact absurd hc (by decide)
    | simp (disch := omega) only [ub_X7_isBeatenBy_36, ub_X7_isBeatenBy_31, ub_X7_isBeatenBy_35, ue_X7_isBeatenBy, t_X7_isBeatenBy, zLg, zRf, zFq, zEl, zNz, zUf, zUe, zUr, zCe, zSn, gd_0, gd_1, gd_2, gd_3, gd_4, gd_5, gd_6, gd_7, gd_8, gd_9, gd_10, gd_11, gd_12, gd_13, gd_14, gd_15, gd_16, gd_17, gd_18, gd_19, se_0, se_1, se_2, se_3, se_4, se_5, se_6, se_7, se_8, se_9, se_10, se_11, se_12, se_13, se_14, se_15, se_16, se_17, se_18, se_19, e_const, e_load, e_store, e_iinc, e_dup, e_dup2, e_pop, e_iadd, e_isub, e_imul, e_ladd, e_lsub, e_lmul, e_iaddw, e_isubw, e_imulw, e_laddw, e_lsubw, e_lmulw, e_iand, e_ior, e_ishl, e_ishr, e_iushr, e_lcmp, e_imax, e_imin, e_idiv, e_irem, e_ldiv, e_lrem, e_i2l, e_i2b, e_l2i, e_i2c, e_getF, e_getR, e_putF, e_putR, e_putz, e_ald, e_aldR, e_ast, e_astb, e_astz, e_asta, e_len, e_acopy, e_new, e_newa, e_mna, e_this, e_room, e_call0, e_callv0, e_call1, e_callv1, e_inv1, e_invv1, e_call2, e_callv2, e_inv2, e_invv2, e_call3, e_callv3, e_inv3, e_invv3, e_call4, e_callv4, e_inv4, e_invv4, e_call5, e_callv5, e_inv5, e_invv5, e_call6, e_callv6, e_inv6, e_invv6, e_call7, e_callv7, e_inv7, e_invv7, e_call8, e_callv8, e_inv8, e_invv8, e_ret, e_retz, e_retc, e_retb, e_retv, e_skip, e_sco, e_tlen, e_tat, e_iz_eq0, e_iz_eq1, e_iz_ne0, e_iz_ne1, add0, sc_d, sc_t, inI_e, inL_e, up_eq, true_or, or_true, or_false, false_or, and_true, true_and, not_false_eq_true, Int.reduceAdd, Int.reduceSub, Int.reduceMul, Int.reduceNeg]
    | with_reducible first | refine ic_ge (fun hc => ?_) (fun hc => ?_) | refine ic_lt (fun hc => ?_) (fun hc => ?_) | refine ic_ne (fun hc => ?_) (fun hc => ?_) | refine ic_eq (fun hc => ?_) (fun hc => ?_) | refine ic_le (fun hc => ?_) (fun hc => ?_) | refine ic_gt (fun hc => ?_) (fun hc => ?_) | refine iz_eq (fun hc => ?_) (fun hc => ?_) | refine iz_ne (fun hc => ?_) (fun hc => ?_) | refine iz_lt (fun hc => ?_) (fun hc => ?_) | refine iz_ge (fun hc => ?_) (fun hc => ?_) | refine iz_gt (fun hc => ?_) (fun hc => ?_) | refine iz_le (fun hc => ?_) (fun hc => ?_) | refine iz_nu (fun hc => ?_) (fun hc => ?_) | refine iz_nn (fun hc => ?_) (fun hc => ?_)
    | omega
    | (exfalso; omega)
  all_goals first
    | exact h1 (by omega)
    | exact h0 (by omega)
theorem cv_dm {v : Int} {j : Nat} (h : gdV j v) (hj : j ≤ 5) (hv : v < XF) : Int.tdiv (cv v) 1000 = v / 100000 ∧ Int.tmod (cv v) 1000 = v % 100000 ∧ 0 ≤ v / 100000 ∧ v / 100000 ≤ 1050 ∧ 0 ≤ v % 100000 ∧ v % 100000 ≤ 600 := by
  have b := cv_b h hj
  rw [Int.tdiv_eq_ediv_of_nonneg b.1, Int.tmod_eq_emod_of_nonneg b.1]
  unfold cv gdV at *
  rw [if_pos hv]
  omega
theorem mul_b {x y : Int} {M K : Int} (h0 : 0 ≤ x) (h1 : x ≤ M) (h2 : 0 ≤ y) (h3 : y ≤ K) (hM : 0 ≤ M) : 0 ≤ x * y ∧ x * y ≤ M * K := ⟨Int.mul_nonneg h0 h2, Int.mul_le_mul h1 h3 h2 hM⟩
/-- what a thing's way has of better than what is kept -/
def beats (fd py hr v ld : Int) : Prop := v < XF ∧ (fd = 0 ∨ v / 100000 * ld < py ∨ (v / 100000 * ld = py ∧ v % 100000 < hr))
theorem sX_keepIfBest (hf : fnT f L R) (hW : ctW C) (hm4 : F t 4 = th 4) (hth : thW th) (ht0 : 0 ≤ t) {w cut r0 p0 r1 p1 : Int} (hw : wyT w L R) (hwf : f + 4 ≤ w) (htw : t < f) (hcut : cut = 0 ∨ cut = 1) (h00 : 0 ≤ r0) (h01 : r0 < 6) (h10 : 0 ≤ r1) (h11 : r1 < 6) (hp : 0 ≤ p1 ∧ p1 < 12) (hp0 : 0 ≤ p0 ∧ p0 < 12) (hfi : F f 1 = nxtP C th r0 r1 p1 (nst r0 r1).toNat p0) (hch : chnE f C th r0 r1 p1 E)
    (h1 : beats (F w 0) (F w 2) (F w 3) (frmP C th r0 r1 p1 (nst r0 r1).toNat p0) (th 4) → ∀ F' E' : Int → Int → Int, frI w (w + 2) F F' → frI w (w + 2) E E' → F' w 0 = 1 → F' w 1 = cut → F' w 2 = frmP C th r0 r1 p1 (nst r0 r1).toNat p0 / 100000 * th 4 → F' w 3 = frmP C th r0 r1 p1 (nst r0 r1).toNat p0 % 100000 → F' w 4 = th 4 → F' w 5 = nst r0 r1 → (∀ i : Nat, (i : Int) < nst r0 r1 → E' (w + 1) i = gsq C th r0 p0 r1 p1 i) → Q 0 (L, R, F', E', N))
    (h0 : ¬ beats (F w 0) (F w 2) (F w 3) (frmP C th r0 r1 p1 (nst r0 r1).toNat p0) (th 4) → Q 0 (L, R, F, E, N)) : T_X3_keepIfBest [f, t, cut, cv (frmP C th r0 r1 p1 (nst r0 r1).toNat p0), w] (L, R, F, E, N) Q := by
  obtain ⟨f0, f3, f4, f5, l1, l2, l3⟩ := hf
  obtain ⟨w0, w6, wl⟩ := hw
  have hXF : XF = 1125899906842624 := rfl
  have nb := nst_b h00 h01 h10 h11
  have b1 := cw_1 hW
  have gd := frm_gd hW hth (r0 := r0) (r1 := r1) hp (nst r0 r1).toNat p0 hp0.1 hp0.2 (by omega)
  have cb := cv_b gd (by omega)
  have t4 := tw_4 hth
  have ws := fun hv => way_step hW (r0 := r0) (r1 := r1) (p1 := p1) (th := th) (p0 := p0) hv hp0
  generalize hv : frmP C th r0 r1 p1 (nst r0 r1).toNat p0 = v at *
  by_cases hlt : v < XF
  · obtain ⟨d1, d2, d3, d4, d5, d6⟩ := cv_dm gd (by omega) hlt
    have ml := mul_b d3 d4 t4.1 t4.2 (by omega)
    repeat' first
      | exact absurd hc (by decide)
      | with_reducible refine sX_isBeatenBy ?_ (fun hb => ?_) (fun hb => ?_)
      | simp (disch := omega) only [ub_X3_keepIfBest_37, ub_X3_keepIfBest_141, ue_X3_keepIfBest, t_X3_keepIfBest, zLg, zRf, zFq, zEl, zNz, zUf, zUe, zUr, zCe, zSn, gd_0, gd_1, gd_2, gd_3, gd_4, gd_5, gd_6, gd_7, gd_8, gd_9, gd_10, gd_11, gd_12, gd_13, gd_14, gd_15, gd_16, gd_17, gd_18, gd_19, se_0, se_1, se_2, se_3, se_4, se_5, se_6, se_7, se_8, se_9, se_10, se_11, se_12, se_13, se_14, se_15, se_16, se_17, se_18, se_19, e_const, e_load, e_store, e_iinc, e_dup, e_dup2, e_pop, e_iadd, e_isub, e_imul, e_ladd, e_lsub, e_lmul, e_iaddw, e_isubw, e_imulw, e_laddw, e_lsubw, e_lmulw, e_iand, e_ior, e_ishl, e_ishr, e_iushr, e_lcmp, e_imax, e_imin, e_idiv, e_irem, e_ldiv, e_lrem, e_i2l, e_i2b, e_l2i, e_i2c, e_getF, e_getR, e_putF, e_putR, e_putz, e_ald, e_aldR, e_ast, e_astb, e_astz, e_asta, e_len, e_acopy, e_new, e_newa, e_mna, e_this, e_room, e_call0, e_callv0, e_call1, e_callv1, e_inv1, e_invv1, e_call2, e_callv2, e_inv2, e_invv2, e_call3, e_callv3, e_inv3, e_invv3, e_call4, e_callv4, e_inv4, e_invv4, e_call5, e_callv5, e_inv5, e_invv5, e_call6, e_callv6, e_inv6, e_invv6, e_call7, e_callv7, e_inv7, e_invv7, e_call8, e_callv8, e_inv8, e_invv8, e_ret, e_retz, e_retc, e_retb, e_retv, e_skip, e_sco, e_tlen, e_tat, e_iz_eq0, e_iz_eq1, e_iz_ne0, e_iz_ne1, add0, sc_d, sc_t, inI_e, inL_e, up_eq, true_or, or_true, or_false, false_or, and_true, true_and, not_false_eq_true, Int.reduceAdd, Int.reduceSub, Int.reduceMul, Int.reduceNeg, hm4, d1, d2, up_ne]
      | with_reducible first | refine ic_ge (fun hc => ?_) (fun hc => ?_) | refine ic_lt (fun hc => ?_) (fun hc => ?_) | refine ic_ne (fun hc => ?_) (fun hc => ?_) | refine ic_eq (fun hc => ?_) (fun hc => ?_) | refine ic_le (fun hc => ?_) (fun hc => ?_) | refine ic_gt (fun hc => ?_) (fun hc => ?_) | refine iz_eq (fun hc => ?_) (fun hc => ?_) | refine iz_ne (fun hc => ?_) (fun hc => ?_) | refine iz_lt (fun hc => ?_) (fun hc => ?_) | refine iz_ge (fun hc => ?_) (fun hc => ?_) | refine iz_gt (fun hc => ?_) (fun hc => ?_) | refine iz_le (fun hc => ?_) (fun hc => ?_) | refine iz_nu (fun hc => ?_) (fun hc => ?_) | refine iz_nn (fun hc => ?_) (fun hc => ?_)
      | omega
      | (exfalso; omega)
    · have hbt : beats (F w 0) (F w 2) (F w 3) v (th 4) := ⟨hlt, hb⟩
      have ws := ws hlt
      rw [hfi]
      unfold L_X3_keepIfBest_85
      refine lpw (fun n l st h c s => ∃ (i : Nat) (F' E' : Int → Int → Int), l = [f, t, cut, cv v, w, v / 100000 * th 4, v % 100000, gsq C th r0 p0 r1 p1 i] ∧ st = [] ∧ h = (L, R, F', E', N) ∧ (i : Int) ≤ nst r0 r1 ∧ (n : Int) = nst r0 r1 - i ∧ frI w (w + 2) F F' ∧ frI w (w + 2) E E' ∧ F' w 0 = 1 ∧ F' w 1 = cut ∧ F' w 2 = v / 100000 * th 4 ∧ F' w 3 = v % 100000 ∧ F' w 4 = th 4 ∧ F' w 5 = i ∧ (∀ q : Nat, q < i → E' (w + 1) q = gsq C th r0 p0 r1 p1 q)) ?_ (n := (nst r0 r1).toNat) ⟨0, _, _, rfl, rfl, rfl, by omega, by omega, ?_, frI.rf, ?_, ?_, ?_, ?_, ?_, ?_, fun q hq => by omega⟩
      · rintro n k hk l st h c s ⟨i, F', E', rfl, rfl, rfl, hi, hn, hF, hE, q0, q1, q2, q3, q4, q5, hinv⟩
        by_cases hin : (i : Int) < nst r0 r1
        · obtain ⟨-, -, s3⟩ := ws i (by omega)
          obtain ⟨s4, s5, s6, s7⟩ := s3 (by omega)
          have hnx : E' (f + 3) (gsq C th r0 p0 r1 p1 i) = gsq C th r0 p0 r1 p1 (i + 1) := by
            rw [hE _ _ (by omega), hch ((nst r0 r1).toNat - (i + 1)) (by omega) _ s4 s5 (by rw [s6]; congr 1; omega)]
            rfl
          repeat' first
            | exact absurd hc (by decide)
            | simp (disch := omega) only [ub_X3_keepIfBest_37, ub_X3_keepIfBest_141, ue_X3_keepIfBest, t_X3_keepIfBest, zLg, zRf, zFq, zEl, zNz, zUf, zUe, zUr, zCe, zSn, gd_0, gd_1, gd_2, gd_3, gd_4, gd_5, gd_6, gd_7, gd_8, gd_9, gd_10, gd_11, gd_12, gd_13, gd_14, gd_15, gd_16, gd_17, gd_18, gd_19, se_0, se_1, se_2, se_3, se_4, se_5, se_6, se_7, se_8, se_9, se_10, se_11, se_12, se_13, se_14, se_15, se_16, se_17, se_18, se_19, e_const, e_load, e_store, e_iinc, e_dup, e_dup2, e_pop, e_iadd, e_isub, e_imul, e_ladd, e_lsub, e_lmul, e_iaddw, e_isubw, e_imulw, e_laddw, e_lsubw, e_lmulw, e_iand, e_ior, e_ishl, e_ishr, e_iushr, e_lcmp, e_imax, e_imin, e_idiv, e_irem, e_ldiv, e_lrem, e_i2l, e_i2b, e_l2i, e_i2c, e_getF, e_getR, e_putF, e_putR, e_putz, e_ald, e_aldR, e_ast, e_astb, e_astz, e_asta, e_len, e_acopy, e_new, e_newa, e_mna, e_this, e_room, e_call0, e_callv0, e_call1, e_callv1, e_inv1, e_invv1, e_call2, e_callv2, e_inv2, e_invv2, e_call3, e_callv3, e_inv3, e_invv3, e_call4, e_callv4, e_inv4, e_invv4, e_call5, e_callv5, e_inv5, e_invv5, e_call6, e_callv6, e_inv6, e_invv6, e_call7, e_callv7, e_inv7, e_invv7, e_call8, e_callv8, e_inv8, e_invv8, e_ret, e_retz, e_retc, e_retb, e_retv, e_skip, e_sco, e_tlen, e_tat, e_iz_eq0, e_iz_eq1, e_iz_ne0, e_iz_ne1, add0, sc_d, sc_t, inI_e, inL_e, up_eq, true_or, or_true, or_false, false_or, and_true, true_and, not_false_eq_true, Int.reduceAdd, Int.reduceSub, Int.reduceMul, Int.reduceNeg, up_ne, w6, wl, f5, l3, q5, hnx]
            | with_reducible first | refine ic_ge (fun hc => ?_) (fun hc => ?_) | refine ic_lt (fun hc => ?_) (fun hc => ?_) | refine ic_ne (fun hc => ?_) (fun hc => ?_) | refine ic_eq (fun hc => ?_) (fun hc => ?_) | refine ic_le (fun hc => ?_) (fun hc => ?_) | refine ic_gt (fun hc => ?_) (fun hc => ?_) | refine iz_eq (fun hc => ?_) (fun hc => ?_) | refine iz_ne (fun hc => ?_) (fun hc => ?_) | refine iz_lt (fun hc => ?_) (fun hc => ?_) | refine iz_ge (fun hc => ?_) (fun hc => ?_) | refine iz_gt (fun hc => ?_) (fun hc => ?_) | refine iz_le (fun hc => ?_) (fun hc => ?_) | refine iz_nu (fun hc => ?_) (fun hc => ?_) | refine iz_nn (fun hc => ?_) (fun hc => ?_)
            | omega
            | (exfalso; omega)
          refine hk (n - 1) _ _ _ _ _ (by omega) ⟨i + 1, _, _, rfl, rfl, rfl, by omega, by omega, fun b q z => (up_ne (by omega)).trans (hF b q z), fun b q z => (up_ne (by omega)).trans (hE b q z), ?_, ?_, ?_, ?_, ?_, ?_, fun q hq => ?_⟩
          · rw [up_ne (by omega)]; exact q0
          · rw [up_ne (by omega)]; exact q1
          · rw [up_ne (by omega)]; exact q2
          · rw [up_ne (by omega)]; exact q3
          · rw [up_ne (by omega)]; exact q4
          · rw [up_eq]; omega
          · by_cases z : q = i
            · subst z; rw [up_eq]
            · rw [up_ne (by omega)]; exact hinv q (by omega)
        · have hie : (i : Int) = nst r0 r1 := by omega
          have hgm : gsq C th r0 p0 r1 p1 i = -1 := by
            unfold gsq
            rw [show (nst r0 r1).toNat - i = 0 by omega]
            rfl
          rw [hgm]
          repeat' first
            | exact absurd hc (by decide)
            | simp (disch := omega) only [ub_X3_keepIfBest_37, ub_X3_keepIfBest_141, ue_X3_keepIfBest, t_X3_keepIfBest, zLg, zRf, zFq, zEl, zNz, zUf, zUe, zUr, zCe, zSn, gd_0, gd_1, gd_2, gd_3, gd_4, gd_5, gd_6, gd_7, gd_8, gd_9, gd_10, gd_11, gd_12, gd_13, gd_14, gd_15, gd_16, gd_17, gd_18, gd_19, se_0, se_1, se_2, se_3, se_4, se_5, se_6, se_7, se_8, se_9, se_10, se_11, se_12, se_13, se_14, se_15, se_16, se_17, se_18, se_19, e_const, e_load, e_store, e_iinc, e_dup, e_dup2, e_pop, e_iadd, e_isub, e_imul, e_ladd, e_lsub, e_lmul, e_iaddw, e_isubw, e_imulw, e_laddw, e_lsubw, e_lmulw, e_iand, e_ior, e_ishl, e_ishr, e_iushr, e_lcmp, e_imax, e_imin, e_idiv, e_irem, e_ldiv, e_lrem, e_i2l, e_i2b, e_l2i, e_i2c, e_getF, e_getR, e_putF, e_putR, e_putz, e_ald, e_aldR, e_ast, e_astb, e_astz, e_asta, e_len, e_acopy, e_new, e_newa, e_mna, e_this, e_room, e_call0, e_callv0, e_call1, e_callv1, e_inv1, e_invv1, e_call2, e_callv2, e_inv2, e_invv2, e_call3, e_callv3, e_inv3, e_invv3, e_call4, e_callv4, e_inv4, e_invv4, e_call5, e_callv5, e_inv5, e_invv5, e_call6, e_callv6, e_inv6, e_invv6, e_call7, e_callv7, e_inv7, e_invv7, e_call8, e_callv8, e_inv8, e_invv8, e_ret, e_retz, e_retc, e_retb, e_retv, e_skip, e_sco, e_tlen, e_tat, e_iz_eq0, e_iz_eq1, e_iz_ne0, e_iz_ne1, add0, sc_d, sc_t, inI_e, inL_e, up_eq, true_or, or_true, or_false, false_or, and_true, true_and, not_false_eq_true, Int.reduceAdd, Int.reduceSub, Int.reduceMul, Int.reduceNeg]
            | with_reducible first | refine ic_ge (fun hc => ?_) (fun hc => ?_) | refine ic_lt (fun hc => ?_) (fun hc => ?_) | refine ic_ne (fun hc => ?_) (fun hc => ?_) | refine ic_eq (fun hc => ?_) (fun hc => ?_) | refine ic_le (fun hc => ?_) (fun hc => ?_) | refine ic_gt (fun hc => ?_) (fun hc => ?_) | refine iz_eq (fun hc => ?_) (fun hc => ?_) | refine iz_ne (fun hc => ?_) (fun hc => ?_) | refine iz_lt (fun hc => ?_) (fun hc => ?_) | refine iz_ge (fun hc => ?_) (fun hc => ?_) | refine iz_gt (fun hc => ?_) (fun hc => ?_) | refine iz_le (fun hc => ?_) (fun hc => ?_) | refine iz_nu (fun hc => ?_) (fun hc => ?_) | refine iz_nn (fun hc => ?_) (fun hc => ?_)
            | omega
            | (exfalso; omega)
          exact h1 hbt F' E' hF hE q0 q1 q2 q3 q4 (by omega) fun q hq => hinv q (by omega)
      · intro b q z
        rw [up_ne (by omega), up_ne (by omega), up_ne (by omega), up_ne (by omega), up_ne (by omega), up_ne (by omega)]
      all_goals simp (disch := omega) only [up_ne, up_eq]
      rfl
    · exact h0 fun z => hb z.2
  · have hc9 : ¬ cv v < 1000000000 := fun z => hlt (cb.2.2.1.mp z)
    have e1 : cv v = 1000000000 := by omega
    rw [e1]
    have d1 : Int.tdiv 1000000000 1000 = 1000000 := rfl
    have d2 : Int.tmod 1000000000 1000 = 0 := rfl
    repeat' first
      | exact absurd hc (by decide)
      | simp (disch := omega) only [ub_X3_keepIfBest_37, ub_X3_keepIfBest_141, ue_X3_keepIfBest, t_X3_keepIfBest, zLg, zRf, zFq, zEl, zNz, zUf, zUe, zUr, zCe, zSn, gd_0, gd_1, gd_2, gd_3, gd_4, gd_5, gd_6, gd_7, gd_8, gd_9, gd_10, gd_11, gd_12, gd_13, gd_14, gd_15, gd_16, gd_17, gd_18, gd_19, se_0, se_1, se_2, se_3, se_4, se_5, se_6, se_7, se_8, se_9, se_10, se_11, se_12, se_13, se_14, se_15, se_16, se_17, se_18, se_19, e_const, e_load, e_store, e_iinc, e_dup, e_dup2, e_pop, e_iadd, e_isub, e_imul, e_ladd, e_lsub, e_lmul, e_iaddw, e_isubw, e_imulw, e_laddw, e_lsubw, e_lmulw, e_iand, e_ior, e_ishl, e_ishr, e_iushr, e_lcmp, e_imax, e_imin, e_idiv, e_irem, e_ldiv, e_lrem, e_i2l, e_i2b, e_l2i, e_i2c, e_getF, e_getR, e_putF, e_putR, e_putz, e_ald, e_aldR, e_ast, e_astb, e_astz, e_asta, e_len, e_acopy, e_new, e_newa, e_mna, e_this, e_room, e_call0, e_callv0, e_call1, e_callv1, e_inv1, e_invv1, e_call2, e_callv2, e_inv2, e_invv2, e_call3, e_callv3, e_inv3, e_invv3, e_call4, e_callv4, e_inv4, e_invv4, e_call5, e_callv5, e_inv5, e_invv5, e_call6, e_callv6, e_inv6, e_invv6, e_call7, e_callv7, e_inv7, e_invv7, e_call8, e_callv8, e_inv8, e_invv8, e_ret, e_retz, e_retc, e_retb, e_retv, e_skip, e_sco, e_tlen, e_tat, e_iz_eq0, e_iz_eq1, e_iz_ne0, e_iz_ne1, add0, sc_d, sc_t, inI_e, inL_e, up_eq, true_or, or_true, or_false, false_or, and_true, true_and, not_false_eq_true, Int.reduceAdd, Int.reduceSub, Int.reduceMul, Int.reduceNeg, hm4, d1, d2]
      | with_reducible first | refine ic_ge (fun hc => ?_) (fun hc => ?_) | refine ic_lt (fun hc => ?_) (fun hc => ?_) | refine ic_ne (fun hc => ?_) (fun hc => ?_) | refine ic_eq (fun hc => ?_) (fun hc => ?_) | refine ic_le (fun hc => ?_) (fun hc => ?_) | refine ic_gt (fun hc => ?_) (fun hc => ?_) | refine iz_eq (fun hc => ?_) (fun hc => ?_) | refine iz_ne (fun hc => ?_) (fun hc => ?_) | refine iz_lt (fun hc => ?_) (fun hc => ?_) | refine iz_ge (fun hc => ?_) (fun hc => ?_) | refine iz_gt (fun hc => ?_) (fun hc => ?_) | refine iz_le (fun hc => ?_) (fun hc => ?_) | refine iz_nu (fun hc => ?_) (fun hc => ?_) | refine iz_nn (fun hc => ?_) (fun hc => ?_)
      | omega
      | (exfalso; omega)
    exact h0 fun z => hlt z.1
theorem bI_01 (P : Prop) : bI P = 0 ∨ bI P = 1 := by
  by_cases h : P
  · exact Or.inr (bI_t h)
  · exact Or.inl (bI_f h)
/-- what seek finds -/
theorem sX_seek (hf : fnT f L R) (hT : ctT a L R) (hM : ctM a C F E) (hW : ctW C) (hsep : a + 105 ≤ f) {e w k r0 p0 r1 p1 : Int} (hw : wyT w L R) (hwf : f + 4 ≤ w) (he : 0 ≤ e) (hel : L e = 6) (hee : e < f ∨ w + 2 ≤ e) (e0 : E e 0 = k) (e1 : E e 1 = r0) (e2 : E e 2 = p0) (e3 : E e 3 = r1) (e4 : E e 4 = p1) (hk0 : 0 ≤ k) (hk1 : k < C 0 3 0) (h00 : 0 ≤ r0) (h01 : r0 < C 0 0 0) (h10 : 0 ≤ r1) (h11 : r1 < C 0 0 0) (hp : 0 ≤ p1 ∧ p1 < 12) (hp0 : 0 ≤ p0 ∧ p0 < 12)
    (hQ : ∀ F' E' : Int → Int → Int, frI f (w + 2) F F' → frI f (w + 2) E E' → (∀ b j : Int, f + 4 ≤ b → b < w → F' b j = F b j ∧ E' b j = E b j) → wyM w (bst C k r0 p0 r1 p1) (bsg C k r0 p0 r1 p1) F' E' → Q 0 (L, up R f 0 a, F', E', N)) : T_X3_seek [f, a, e, w] (L, R, F, E, N) Q := by
  have f0 := hf.1
  have hw0 := hw.1
  have hXF : XF = 1125899906842624 := rfl
  have pa := ct_p hT
  have b0 := cw_0 hW
  have b3 := cw_3 hW
  have hRR : frI f (f + 1) R (up R f 0 a) := frI.up (by omega) (by omega)
  have hT' := hT.fi hRR (by omega)
  have hf' : fnT f L (up R f 0 a) := ⟨hf.1, (up_ne (by omega)).trans hf.2.1, (up_ne (by omega)).trans hf.2.2.1, (up_ne (by omega)).trans hf.2.2.2.1, hf.2.2.2.2.1, hf.2.2.2.2.2.1, hf.2.2.2.2.2.2⟩
  have hw' : wyT w L (up R f 0 a) := ⟨hw.1, (up_ne (by omega)).trans hw.2.1, hw.2.2⟩
  have hRf' : up R f 0 a f 0 = a := up_eq
  simp (disch := omega) only [ub_X3_seek_89, ub_X3_seek_30, ue_X3_seek, t_X3_seek, zLg, zRf, zFq, zEl, zNz, zUf, zUe, zUr, zCe, zSn, gd_0, gd_1, gd_2, gd_3, gd_4, gd_5, gd_6, gd_7, gd_8, gd_9, gd_10, gd_11, gd_12, gd_13, gd_14, gd_15, gd_16, gd_17, gd_18, gd_19, se_0, se_1, se_2, se_3, se_4, se_5, se_6, se_7, se_8, se_9, se_10, se_11, se_12, se_13, se_14, se_15, se_16, se_17, se_18, se_19, e_const, e_load, e_store, e_iinc, e_dup, e_dup2, e_pop, e_iadd, e_isub, e_imul, e_ladd, e_lsub, e_lmul, e_iaddw, e_isubw, e_imulw, e_laddw, e_lsubw, e_lmulw, e_iand, e_ior, e_ishl, e_ishr, e_iushr, e_lcmp, e_imax, e_imin, e_idiv, e_irem, e_ldiv, e_lrem, e_i2l, e_i2b, e_l2i, e_i2c, e_getF, e_getR, e_putF, e_putR, e_putz, e_ald, e_aldR, e_ast, e_astb, e_astz, e_asta, e_len, e_acopy, e_new, e_newa, e_mna, e_this, e_room, e_call0, e_callv0, e_call1, e_callv1, e_inv1, e_invv1, e_call2, e_callv2, e_inv2, e_invv2, e_call3, e_callv3, e_inv3, e_invv3, e_call4, e_callv4, e_inv4, e_invv4, e_call5, e_callv5, e_inv5, e_invv5, e_call6, e_callv6, e_inv6, e_invv6, e_call7, e_callv7, e_inv7, e_invv7, e_call8, e_callv8, e_inv8, e_invv8, e_ret, e_retz, e_retc, e_retb, e_retv, e_skip, e_sco, e_tlen, e_tat, e_iz_eq0, e_iz_eq1, e_iz_ne0, e_iz_ne1, add0, sc_d, sc_t, inI_e, inL_e, up_eq, true_or, or_true, or_false, false_or, and_true, true_and, not_false_eq_true, Int.reduceAdd, Int.reduceSub, Int.reduceMul, Int.reduceNeg]
  generalize up R f 0 a = R' at *
  clear hf hw hT hRR
  have pnb := pn_b hW hk0 hk1
  have tW := ct_wt hT' k hk0 (by omega)
  have tP := ct_pt hT' k hk0 (by omega)
  have wW := wh_W hW hk0 hk1
  have wP := pt_W hW hk0 hk1
  -- one round, for a thing
  have one : ∀ (t cut : Int) (th : Int → Int) (F1 E1 : Int → Int → Int) (k9 : xK) (c9 s9 : Nat), (t = a + 41 + 8 * k ∨ t = a + 45 + 8 * k) → thT t L R' → thW th → thM t th F1 E1 → ctM a C F1 E1 → (cut = 0 ∨ cut = 1) → (∀ j : Int, E1 e j = E e j) → 0 < th 4 →
      (∀ (F2 E2 : Int → Int → Int) (z : Int), frI f (w + 2) F1 F2 → frI f (w + 2) E1 E2 → (∀ b j : Int, f + 4 ≤ b → b < w → F2 b j = F1 b j ∧ E2 b j = E1 b j) →
        ((beats (F1 w 0) (F1 w 2) (F1 w 3) (wcost C th r0 p0 r1 p1) (th 4) ∧ F2 w 0 = 1 ∧ F2 w 1 = cut ∧ F2 w 2 = wcost C th r0 p0 r1 p1 / 100000 * th 4 ∧ F2 w 3 = wcost C th r0 p0 r1 p1 % 100000 ∧ F2 w 4 = th 4 ∧ F2 w 5 = nst r0 r1 ∧ (∀ i : Nat, (i : Int) < nst r0 r1 → E2 (w + 1) i = gsq C th r0 p0 r1 p1 i)) ∨
         (¬ beats (F1 w 0) (F1 w 2) (F1 w 3) (wcost C th r0 p0 r1 p1) (th 4) ∧ (∀ j : Int, F2 w j = F1 w j ∧ E2 (w + 1) j = E1 (w + 1) j))) → k9 [f, a, e, w, cut + 1, cut, t] [] (L, R', F2, E2, N) c9 s9) →
      T_X3_allBear [f, t, r0, r1] (L, R', F1, E1, N) (fun v h' => x_iz (fun x => x = 0) (B_X3_seek_89 Q k9) (x_load 0 (x_load 6 (x_invv 2 T_X3_priceGates 0 0 (x_load 0 (x_load 6 (x_load 5 (x_load 0 (x_load 2 (x_inv 2 T_X3_costOf 0 0 (x_load 3 (x_invv 5 T_X3_keepIfBest 0 0 (B_X3_seek_89 Q k9)))))))))))) [f, a, e, w, cut, cut, t] [v] h' c9 s9) := by
    intro t cut th F1 E1 k9 c9 s9 ht hTt hth hm hM1 hcut hee1 hld hfin
    have hcI : cut = 0 ∨ cut = 1 := hcut
    refine sX_allBear hRf' f0 hT' hM1 hW hTt hm hth h00 h01 h10 h11 (fun hb => ?_) (fun hb => ?_)
    · have hwc : wcost C th r0 p0 r1 p1 = frmP C th r0 r1 p1 (nst r0 r1).toNat p0 := if_pos (bI_t hb)
      rw [hwc] at hfin
      repeat' first
        | exact absurd hc (by decide)
        | with_reducible refine sX_priceGates hf' hRf' hT' hM1 hW hTt hm hth hsep ?_ (fun E2 g1 g2 => ?_)
        | simp (disch := omega) only [ub_X3_seek_89, ub_X3_seek_30, ue_X3_seek, t_X3_seek, zLg, zRf, zFq, zEl, zNz, zUf, zUe, zUr, zCe, zSn, gd_0, gd_1, gd_2, gd_3, gd_4, gd_5, gd_6, gd_7, gd_8, gd_9, gd_10, gd_11, gd_12, gd_13, gd_14, gd_15, gd_16, gd_17, gd_18, gd_19, se_0, se_1, se_2, se_3, se_4, se_5, se_6, se_7, se_8, se_9, se_10, se_11, se_12, se_13, se_14, se_15, se_16, se_17, se_18, se_19, e_const, e_load, e_store, e_iinc, e_dup, e_dup2, e_pop, e_iadd, e_isub, e_imul, e_ladd, e_lsub, e_lmul, e_iaddw, e_isubw, e_imulw, e_laddw, e_lsubw, e_lmulw, e_iand, e_ior, e_ishl, e_ishr, e_iushr, e_lcmp, e_imax, e_imin, e_idiv, e_irem, e_ldiv, e_lrem, e_i2l, e_i2b, e_l2i, e_i2c, e_getF, e_getR, e_putF, e_putR, e_putz, e_ald, e_aldR, e_ast, e_astb, e_astz, e_asta, e_len, e_acopy, e_new, e_newa, e_mna, e_this, e_room, e_call0, e_callv0, e_call1, e_callv1, e_inv1, e_invv1, e_call2, e_callv2, e_inv2, e_invv2, e_call3, e_callv3, e_inv3, e_invv3, e_call4, e_callv4, e_inv4, e_invv4, e_call5, e_callv5, e_inv5, e_invv5, e_call6, e_callv6, e_inv6, e_invv6, e_call7, e_callv7, e_inv7, e_invv7, e_call8, e_callv8, e_inv8, e_invv8, e_ret, e_retz, e_retc, e_retb, e_retv, e_skip, e_sco, e_tlen, e_tat, e_iz_eq0, e_iz_eq1, e_iz_ne0, e_iz_ne1, add0, sc_d, sc_t, inI_e, inL_e, up_eq, true_or, or_true, or_false, false_or, and_true, true_and, not_false_eq_true, Int.reduceAdd, Int.reduceSub, Int.reduceMul, Int.reduceNeg]
        | with_reducible first | refine ic_ge (fun hc => ?_) (fun hc => ?_) | refine ic_lt (fun hc => ?_) (fun hc => ?_) | refine ic_ne (fun hc => ?_) (fun hc => ?_) | refine ic_eq (fun hc => ?_) (fun hc => ?_) | refine ic_le (fun hc => ?_) (fun hc => ?_) | refine ic_gt (fun hc => ?_) (fun hc => ?_) | refine iz_eq (fun hc => ?_) (fun hc => ?_) | refine iz_ne (fun hc => ?_) (fun hc => ?_) | refine iz_lt (fun hc => ?_) (fun hc => ?_) | refine iz_ge (fun hc => ?_) (fun hc => ?_) | refine iz_gt (fun hc => ?_) (fun hc => ?_) | refine iz_le (fun hc => ?_) (fun hc => ?_) | refine iz_nu (fun hc => ?_) (fun hc => ?_) | refine iz_nn (fun hc => ?_) (fun hc => ?_)
        | omega
        | (exfalso; omega)
      have hfE : frI f (f + 4) E1 E2 := fun b j z => g1 b j (by omega)
      have hM2 := hM1.fi hW (frI.rf (lo := f) (hi := f + 4)) hfE (by omega)
      refine sX_costOf hf' hRf' hT' hM2 hW hth hsep g2 he hel (by rw [hfE _ _ (by omega), hee1]; exact e1) (by rw [hfE _ _ (by omega), hee1]; exact e2) (by rw [hfE _ _ (by omega), hee1]; exact e3) (by rw [hfE _ _ (by omega), hee1]; exact e4) (by omega) h00 (by omega) h10 (by omega) hp hp0 fun F3 E3 k1 k2 k3 k4 => ?_
      repeat' first
        | exact absurd hc (by decide)
        | simp (disch := omega) only [ub_X3_seek_89, ub_X3_seek_30, ue_X3_seek, t_X3_seek, zLg, zRf, zFq, zEl, zNz, zUf, zUe, zUr, zCe, zSn, gd_0, gd_1, gd_2, gd_3, gd_4, gd_5, gd_6, gd_7, gd_8, gd_9, gd_10, gd_11, gd_12, gd_13, gd_14, gd_15, gd_16, gd_17, gd_18, gd_19, se_0, se_1, se_2, se_3, se_4, se_5, se_6, se_7, se_8, se_9, se_10, se_11, se_12, se_13, se_14, se_15, se_16, se_17, se_18, se_19, e_const, e_load, e_store, e_iinc, e_dup, e_dup2, e_pop, e_iadd, e_isub, e_imul, e_ladd, e_lsub, e_lmul, e_iaddw, e_isubw, e_imulw, e_laddw, e_lsubw, e_lmulw, e_iand, e_ior, e_ishl, e_ishr, e_iushr, e_lcmp, e_imax, e_imin, e_idiv, e_irem, e_ldiv, e_lrem, e_i2l, e_i2b, e_l2i, e_i2c, e_getF, e_getR, e_putF, e_putR, e_putz, e_ald, e_aldR, e_ast, e_astb, e_astz, e_asta, e_len, e_acopy, e_new, e_newa, e_mna, e_this, e_room, e_call0, e_callv0, e_call1, e_callv1, e_inv1, e_invv1, e_call2, e_callv2, e_inv2, e_invv2, e_call3, e_callv3, e_inv3, e_invv3, e_call4, e_callv4, e_inv4, e_invv4, e_call5, e_callv5, e_inv5, e_invv5, e_call6, e_callv6, e_inv6, e_invv6, e_call7, e_callv7, e_inv7, e_invv7, e_call8, e_callv8, e_inv8, e_invv8, e_ret, e_retz, e_retc, e_retb, e_retv, e_skip, e_sco, e_tlen, e_tat, e_iz_eq0, e_iz_eq1, e_iz_ne0, e_iz_ne1, add0, sc_d, sc_t, inI_e, inL_e, up_eq, true_or, or_true, or_false, false_or, and_true, true_and, not_false_eq_true, Int.reduceAdd, Int.reduceSub, Int.reduceMul, Int.reduceNeg]
        | with_reducible first | refine ic_ge (fun hc => ?_) (fun hc => ?_) | refine ic_lt (fun hc => ?_) (fun hc => ?_) | refine ic_ne (fun hc => ?_) (fun hc => ?_) | refine ic_eq (fun hc => ?_) (fun hc => ?_) | refine ic_le (fun hc => ?_) (fun hc => ?_) | refine ic_gt (fun hc => ?_) (fun hc => ?_) | refine iz_eq (fun hc => ?_) (fun hc => ?_) | refine iz_ne (fun hc => ?_) (fun hc => ?_) | refine iz_lt (fun hc => ?_) (fun hc => ?_) | refine iz_ge (fun hc => ?_) (fun hc => ?_) | refine iz_gt (fun hc => ?_) (fun hc => ?_) | refine iz_le (fun hc => ?_) (fun hc => ?_) | refine iz_nu (fun hc => ?_) (fun hc => ?_) | refine iz_nn (fun hc => ?_) (fun hc => ?_)
        | omega
        | (exfalso; omega)
      have ek : ∀ j : Int, F3 w j = F1 w j ∧ E3 (w + 1) j = E1 (w + 1) j := fun j => ⟨k1 _ _ (by omega), by rw [k2 _ _ (by omega), hfE _ _ (by omega)]⟩
      refine sX_keepIfBest hf' hW (th := th) (by rw [k1 _ _ (by omega)]; exact tm_4 hm) hth (by omega) hw' hwf (by omega) hcut h00 (by omega) h10 (by omega) hp hp0 k3 k4 (fun hbt F4 E4 m1 m2 m3 m4 m5 m6 m7 m8 m9 => ?_) (fun hbt => ?_)
      · rw [(ek 0).1, (ek 2).1, (ek 3).1] at hbt
        repeat' first
          | exact absurd hc (by decide)
          | simp (disch := omega) only [ub_X3_seek_89, ub_X3_seek_30, ue_X3_seek, t_X3_seek, zLg, zRf, zFq, zEl, zNz, zUf, zUe, zUr, zCe, zSn, gd_0, gd_1, gd_2, gd_3, gd_4, gd_5, gd_6, gd_7, gd_8, gd_9, gd_10, gd_11, gd_12, gd_13, gd_14, gd_15, gd_16, gd_17, gd_18, gd_19, se_0, se_1, se_2, se_3, se_4, se_5, se_6, se_7, se_8, se_9, se_10, se_11, se_12, se_13, se_14, se_15, se_16, se_17, se_18, se_19, e_const, e_load, e_store, e_iinc, e_dup, e_dup2, e_pop, e_iadd, e_isub, e_imul, e_ladd, e_lsub, e_lmul, e_iaddw, e_isubw, e_imulw, e_laddw, e_lsubw, e_lmulw, e_iand, e_ior, e_ishl, e_ishr, e_iushr, e_lcmp, e_imax, e_imin, e_idiv, e_irem, e_ldiv, e_lrem, e_i2l, e_i2b, e_l2i, e_i2c, e_getF, e_getR, e_putF, e_putR, e_putz, e_ald, e_aldR, e_ast, e_astb, e_astz, e_asta, e_len, e_acopy, e_new, e_newa, e_mna, e_this, e_room, e_call0, e_callv0, e_call1, e_callv1, e_inv1, e_invv1, e_call2, e_callv2, e_inv2, e_invv2, e_call3, e_callv3, e_inv3, e_invv3, e_call4, e_callv4, e_inv4, e_invv4, e_call5, e_callv5, e_inv5, e_invv5, e_call6, e_callv6, e_inv6, e_invv6, e_call7, e_callv7, e_inv7, e_invv7, e_call8, e_callv8, e_inv8, e_invv8, e_ret, e_retz, e_retc, e_retb, e_retv, e_skip, e_sco, e_tlen, e_tat, e_iz_eq0, e_iz_eq1, e_iz_ne0, e_iz_ne1, add0, sc_d, sc_t, inI_e, inL_e, up_eq, true_or, or_true, or_false, false_or, and_true, true_and, not_false_eq_true, Int.reduceAdd, Int.reduceSub, Int.reduceMul, Int.reduceNeg]
          | with_reducible first | refine ic_ge (fun hc => ?_) (fun hc => ?_) | refine ic_lt (fun hc => ?_) (fun hc => ?_) | refine ic_ne (fun hc => ?_) (fun hc => ?_) | refine ic_eq (fun hc => ?_) (fun hc => ?_) | refine ic_le (fun hc => ?_) (fun hc => ?_) | refine ic_gt (fun hc => ?_) (fun hc => ?_) | refine iz_eq (fun hc => ?_) (fun hc => ?_) | refine iz_ne (fun hc => ?_) (fun hc => ?_) | refine iz_lt (fun hc => ?_) (fun hc => ?_) | refine iz_ge (fun hc => ?_) (fun hc => ?_) | refine iz_gt (fun hc => ?_) (fun hc => ?_) | refine iz_le (fun hc => ?_) (fun hc => ?_) | refine iz_nu (fun hc => ?_) (fun hc => ?_) | refine iz_nn (fun hc => ?_) (fun hc => ?_)
          | omega
          | (exfalso; omega)
        refine hfin F4 E4 0 (fun b j z => ?_) (fun b j z => ?_) (fun b j y z => ⟨?_, ?_⟩) (Or.inl ⟨hbt, m3, m4, m5, m6, m7, m8, m9⟩)
        · rw [m1 _ _ (by omega), k1 _ _ (by omega)]
        · rw [m2 _ _ (by omega), k2 _ _ (by omega), hfE _ _ (by omega)]
        · rw [m1 _ _ (by omega), k1 _ _ (by omega)]
        · rw [m2 _ _ (by omega), k2 _ _ (by omega), hfE _ _ (by omega)]
      · rw [(ek 0).1, (ek 2).1, (ek 3).1] at hbt
        repeat' first
          | exact absurd hc (by decide)
          | simp (disch := omega) only [ub_X3_seek_89, ub_X3_seek_30, ue_X3_seek, t_X3_seek, zLg, zRf, zFq, zEl, zNz, zUf, zUe, zUr, zCe, zSn, gd_0, gd_1, gd_2, gd_3, gd_4, gd_5, gd_6, gd_7, gd_8, gd_9, gd_10, gd_11, gd_12, gd_13, gd_14, gd_15, gd_16, gd_17, gd_18, gd_19, se_0, se_1, se_2, se_3, se_4, se_5, se_6, se_7, se_8, se_9, se_10, se_11, se_12, se_13, se_14, se_15, se_16, se_17, se_18, se_19, e_const, e_load, e_store, e_iinc, e_dup, e_dup2, e_pop, e_iadd, e_isub, e_imul, e_ladd, e_lsub, e_lmul, e_iaddw, e_isubw, e_imulw, e_laddw, e_lsubw, e_lmulw, e_iand, e_ior, e_ishl, e_ishr, e_iushr, e_lcmp, e_imax, e_imin, e_idiv, e_irem, e_ldiv, e_lrem, e_i2l, e_i2b, e_l2i, e_i2c, e_getF, e_getR, e_putF, e_putR, e_putz, e_ald, e_aldR, e_ast, e_astb, e_astz, e_asta, e_len, e_acopy, e_new, e_newa, e_mna, e_this, e_room, e_call0, e_callv0, e_call1, e_callv1, e_inv1, e_invv1, e_call2, e_callv2, e_inv2, e_invv2, e_call3, e_callv3, e_inv3, e_invv3, e_call4, e_callv4, e_inv4, e_invv4, e_call5, e_callv5, e_inv5, e_invv5, e_call6, e_callv6, e_inv6, e_invv6, e_call7, e_callv7, e_inv7, e_invv7, e_call8, e_callv8, e_inv8, e_invv8, e_ret, e_retz, e_retc, e_retb, e_retv, e_skip, e_sco, e_tlen, e_tat, e_iz_eq0, e_iz_eq1, e_iz_ne0, e_iz_ne1, add0, sc_d, sc_t, inI_e, inL_e, up_eq, true_or, or_true, or_false, false_or, and_true, true_and, not_false_eq_true, Int.reduceAdd, Int.reduceSub, Int.reduceMul, Int.reduceNeg]
          | with_reducible first | refine ic_ge (fun hc => ?_) (fun hc => ?_) | refine ic_lt (fun hc => ?_) (fun hc => ?_) | refine ic_ne (fun hc => ?_) (fun hc => ?_) | refine ic_eq (fun hc => ?_) (fun hc => ?_) | refine ic_le (fun hc => ?_) (fun hc => ?_) | refine ic_gt (fun hc => ?_) (fun hc => ?_) | refine iz_eq (fun hc => ?_) (fun hc => ?_) | refine iz_ne (fun hc => ?_) (fun hc => ?_) | refine iz_lt (fun hc => ?_) (fun hc => ?_) | refine iz_ge (fun hc => ?_) (fun hc => ?_) | refine iz_gt (fun hc => ?_) (fun hc => ?_) | refine iz_le (fun hc => ?_) (fun hc => ?_) | refine iz_nu (fun hc => ?_) (fun hc => ?_) | refine iz_nn (fun hc => ?_) (fun hc => ?_)
          | omega
          | (exfalso; omega)
        refine hfin F3 E3 0 (fun b j z => ?_) (fun b j z => ?_) (fun b j y z => ⟨?_, ?_⟩) (Or.inr ⟨hbt, fun j => ek j⟩)
        · rw [k1 _ _ (by omega)]
        · rw [k2 _ _ (by omega), hfE _ _ (by omega)]
        · rw [k1 _ _ (by omega)]
        · rw [k2 _ _ (by omega), hfE _ _ (by omega)]
    · have hwc : wcost C th r0 p0 r1 p1 = XF := if_neg (by rw [bI_f hb]; decide)
      rw [hwc] at hfin
      repeat' first
        | exact absurd hc (by decide)
        | simp (disch := omega) only [ub_X3_seek_89, ub_X3_seek_30, ue_X3_seek, t_X3_seek, zLg, zRf, zFq, zEl, zNz, zUf, zUe, zUr, zCe, zSn, gd_0, gd_1, gd_2, gd_3, gd_4, gd_5, gd_6, gd_7, gd_8, gd_9, gd_10, gd_11, gd_12, gd_13, gd_14, gd_15, gd_16, gd_17, gd_18, gd_19, se_0, se_1, se_2, se_3, se_4, se_5, se_6, se_7, se_8, se_9, se_10, se_11, se_12, se_13, se_14, se_15, se_16, se_17, se_18, se_19, e_const, e_load, e_store, e_iinc, e_dup, e_dup2, e_pop, e_iadd, e_isub, e_imul, e_ladd, e_lsub, e_lmul, e_iaddw, e_isubw, e_imulw, e_laddw, e_lsubw, e_lmulw, e_iand, e_ior, e_ishl, e_ishr, e_iushr, e_lcmp, e_imax, e_imin, e_idiv, e_irem, e_ldiv, e_lrem, e_i2l, e_i2b, e_l2i, e_i2c, e_getF, e_getR, e_putF, e_putR, e_putz, e_ald, e_aldR, e_ast, e_astb, e_astz, e_asta, e_len, e_acopy, e_new, e_newa, e_mna, e_this, e_room, e_call0, e_callv0, e_call1, e_callv1, e_inv1, e_invv1, e_call2, e_callv2, e_inv2, e_invv2, e_call3, e_callv3, e_inv3, e_invv3, e_call4, e_callv4, e_inv4, e_invv4, e_call5, e_callv5, e_inv5, e_invv5, e_call6, e_callv6, e_inv6, e_invv6, e_call7, e_callv7, e_inv7, e_invv7, e_call8, e_callv8, e_inv8, e_invv8, e_ret, e_retz, e_retc, e_retb, e_retv, e_skip, e_sco, e_tlen, e_tat, e_iz_eq0, e_iz_eq1, e_iz_ne0, e_iz_ne1, add0, sc_d, sc_t, inI_e, inL_e, up_eq, true_or, or_true, or_false, false_or, and_true, true_and, not_false_eq_true, Int.reduceAdd, Int.reduceSub, Int.reduceMul, Int.reduceNeg]
        | with_reducible first | refine ic_ge (fun hc => ?_) (fun hc => ?_) | refine ic_lt (fun hc => ?_) (fun hc => ?_) | refine ic_ne (fun hc => ?_) (fun hc => ?_) | refine ic_eq (fun hc => ?_) (fun hc => ?_) | refine ic_le (fun hc => ?_) (fun hc => ?_) | refine ic_gt (fun hc => ?_) (fun hc => ?_) | refine iz_eq (fun hc => ?_) (fun hc => ?_) | refine iz_ne (fun hc => ?_) (fun hc => ?_) | refine iz_lt (fun hc => ?_) (fun hc => ?_) | refine iz_ge (fun hc => ?_) (fun hc => ?_) | refine iz_gt (fun hc => ?_) (fun hc => ?_) | refine iz_le (fun hc => ?_) (fun hc => ?_) | refine iz_nu (fun hc => ?_) (fun hc => ?_) | refine iz_nn (fun hc => ?_) (fun hc => ?_)
        | omega
        | (exfalso; omega)
      exact hfin F1 E1 0 frI.rf frI.rf (fun _ _ _ _ => ⟨rfl, rfl⟩) (Or.inr ⟨fun z => absurd z.1 (by omega), fun _ => ⟨rfl, rfl⟩⟩)
  unfold L_X3_seek_13
  refine lu 3 ?_
  have hM0 := hM.fi hW (frI.up (F := F) (a := w) (i := 0) (v := 0) (Int.le_refl w) (by omega : w < w + 2)) (frI.rf (lo := w) (hi := w + 2)) (by omega)
  have hmW := cm_wh hM0 k hk0 hk1
  have e4w : wh C k 4 = 1 := rfl
  have e4p : pt C k 4 = pn C k := rfl
  have f40 : up F w 0 0 (a + 41 + 8 * k) 4 = 1 := (tm_4 hmW).trans e4w
  repeat' first
    | exact absurd hc (by decide)
    | with_reducible refine sX_thing hT' hk0 ?_ (fun hcu => ?_) (fun hcu => ?_)
    | simp (disch := omega) only [ub_X3_seek_89, ub_X3_seek_30, ue_X3_seek, t_X3_seek, zLg, zRf, zFq, zEl, zNz, zUf, zUe, zUr, zCe, zSn, gd_0, gd_1, gd_2, gd_3, gd_4, gd_5, gd_6, gd_7, gd_8, gd_9, gd_10, gd_11, gd_12, gd_13, gd_14, gd_15, gd_16, gd_17, gd_18, gd_19, se_0, se_1, se_2, se_3, se_4, se_5, se_6, se_7, se_8, se_9, se_10, se_11, se_12, se_13, se_14, se_15, se_16, se_17, se_18, se_19, e_const, e_load, e_store, e_iinc, e_dup, e_dup2, e_pop, e_iadd, e_isub, e_imul, e_ladd, e_lsub, e_lmul, e_iaddw, e_isubw, e_imulw, e_laddw, e_lsubw, e_lmulw, e_iand, e_ior, e_ishl, e_ishr, e_iushr, e_lcmp, e_imax, e_imin, e_idiv, e_irem, e_ldiv, e_lrem, e_i2l, e_i2b, e_l2i, e_i2c, e_getF, e_getR, e_putF, e_putR, e_putz, e_ald, e_aldR, e_ast, e_astb, e_astz, e_asta, e_len, e_acopy, e_new, e_newa, e_mna, e_this, e_room, e_call0, e_callv0, e_call1, e_callv1, e_inv1, e_invv1, e_call2, e_callv2, e_inv2, e_invv2, e_call3, e_callv3, e_inv3, e_invv3, e_call4, e_callv4, e_inv4, e_invv4, e_call5, e_callv5, e_inv5, e_invv5, e_call6, e_callv6, e_inv6, e_invv6, e_call7, e_callv7, e_inv7, e_invv7, e_call8, e_callv8, e_inv8, e_invv8, e_ret, e_retz, e_retc, e_retb, e_retv, e_skip, e_sco, e_tlen, e_tat, e_iz_eq0, e_iz_eq1, e_iz_ne0, e_iz_ne1, add0, sc_d, sc_t, inI_e, inL_e, up_eq, true_or, or_true, or_false, false_or, and_true, true_and, not_false_eq_true, Int.reduceAdd, Int.reduceSub, Int.reduceMul, Int.reduceNeg, e_it1, e_it2, e_it3, hRf', hel, e0, e1, e3, f40]
    | with_reducible first | refine ic_ge (fun hc => ?_) (fun hc => ?_) | refine ic_lt (fun hc => ?_) (fun hc => ?_) | refine ic_ne (fun hc => ?_) (fun hc => ?_) | refine ic_eq (fun hc => ?_) (fun hc => ?_) | refine ic_le (fun hc => ?_) (fun hc => ?_) | refine ic_gt (fun hc => ?_) (fun hc => ?_) | refine iz_eq (fun hc => ?_) (fun hc => ?_) | refine iz_ne (fun hc => ?_) (fun hc => ?_) | refine iz_lt (fun hc => ?_) (fun hc => ?_) | refine iz_ge (fun hc => ?_) (fun hc => ?_) | refine iz_gt (fun hc => ?_) (fun hc => ?_) | refine iz_le (fun hc => ?_) (fun hc => ?_) | refine iz_nu (fun hc => ?_) (fun hc => ?_) | refine iz_nn (fun hc => ?_) (fun hc => ?_)
    | omega
    | (exfalso; omega)
  refine one (a + 41 + 8 * k) 0 (wh C k) _ E _ _ _ (Or.inl rfl) tW wW hmW hM0 (Or.inl rfl) (fun _ => rfl) (by omega) fun F2 E2 _ g1 g2 g3 g4 => ?_
  have hM2 := hM0.fi hW g1 g2 (by omega)
  have hmP := cm_pt hM2 k hk0 hk1
  have f42 : F2 (a + 45 + 8 * k) 4 = pn C k := (tm_4 hmP).trans e4p
  have ew0 : up F w 0 0 w 0 = 0 := up_eq
  have hb1 : beats (up F w 0 0 w 0) (up F w 0 0 w 2) (up F w 0 0 w 3) (wcost C (wh C k) r0 p0 r1 p1) (wh C k 4) ↔ vwP C k r0 p0 r1 p1 < XF := by
    rw [ew0]
    exact ⟨fun z => z.1, fun z => ⟨z, Or.inl rfl⟩⟩
  rw [hb1] at g4
  have ee2 : ∀ j : Int, E2 e j = E e j := fun j => g2 _ _ (by omega)
  have fin : ∀ F3 E3 : Int → Int → Int, frI f (w + 2) F2 F3 → frI f (w + 2) E2 E3 → (∀ b j : Int, f + 4 ≤ b → b < w → F3 b j = F2 b j ∧ E3 b j = E2 b j) → wyM w (bst C k r0 p0 r1 p1) (bsg C k r0 p0 r1 p1) F3 E3 → Q 0 (L, R', F3, E3, N) := fun F3 E3 m1 m2 m3 m4 => by
    refine hQ F3 E3 (fun b j z => ?_) (fun b j z => ?_) (fun b j y z => ⟨?_, ?_⟩) m4
    · rw [m1 _ _ (by omega), g1 _ _ (by omega), up_ne (by omega)]
    · rw [m2 _ _ (by omega), g2 _ _ (by omega)]
    · rw [(m3 _ _ y z).1, (g3 _ _ y z).1, up_ne (by omega)]
    · rw [(m3 _ _ y z).2, (g3 _ _ y z).2]
  have b_0 : bst C k r0 p0 r1 p1 0 = bI (vwP C k r0 p0 r1 p1 < XF ∨ vcP C k r0 p0 r1 p1 < XF) := rfl
  have b_1 : bst C k r0 p0 r1 p1 1 = bI (cutB C k (vwP C k r0 p0 r1 p1) (vcP C k r0 p0 r1 p1)) := rfl
  have b_2 : bst C k r0 p0 r1 p1 2 = if bI (cutB C k (vwP C k r0 p0 r1 p1) (vcP C k r0 p0 r1 p1)) = 1 then vcP C k r0 p0 r1 p1 / 100000 * pn C k else vwP C k r0 p0 r1 p1 / 100000 := rfl
  have b_3 : bst C k r0 p0 r1 p1 3 = if bI (cutB C k (vwP C k r0 p0 r1 p1) (vcP C k r0 p0 r1 p1)) = 1 then vcP C k r0 p0 r1 p1 % 100000 else vwP C k r0 p0 r1 p1 % 100000 := rfl
  have b_4 : bst C k r0 p0 r1 p1 4 = if bI (cutB C k (vwP C k r0 p0 r1 p1) (vcP C k r0 p0 r1 p1)) = 1 then pn C k else 1 := rfl
  have b_5 : bst C k r0 p0 r1 p1 5 = nst r0 r1 := rfl
  have b_g : ∀ i, bsg C k r0 p0 r1 p1 i = if bI (cutB C k (vwP C k r0 p0 r1 p1) (vcP C k r0 p0 r1 p1)) = 1 then gsq C (pt C k) r0 p0 r1 p1 i else gsq C (wh C k) r0 p0 r1 p1 i := fun _ => rfl
  -- the whole stays
  have stay : ∀ F3 E3 : Int → Int → Int, (∀ j : Int, F3 w j = F2 w j ∧ E3 (w + 1) j = E2 (w + 1) j) → ¬ cutB C k (vwP C k r0 p0 r1 p1) (vcP C k r0 p0 r1 p1) → wyM w (bst C k r0 p0 r1 p1) (bsg C k r0 p0 r1 p1) F3 E3 := fun F3 E3 he hn => by
    unfold wyM
    rw [b_0, b_1, b_2, b_3, b_4, b_5, bI_f hn]
    simp only [b_g, bI_f hn]
    rcases g4 with ⟨y0, y1, y2, y3, y4, y5, y6, y7⟩ | ⟨y0, y1⟩
    · rw [bI_t (Or.inl y0), (he 0).1, (he 1).1, (he 2).1, (he 3).1, (he 4).1, (he 5).1]
      refine ⟨y1, fun _ => ⟨y2, ?_, y4, y5, y6, fun i hi => ?_⟩⟩
      · rw [y3, e4w, Int.mul_one]; rfl
      · rw [(he _).2]; exact y7 i hi
    · have hn2 : ¬ (vwP C k r0 p0 r1 p1 < XF ∨ vcP C k r0 p0 r1 p1 < XF) := fun z => z.elim y0 fun z => hn ⟨z, Or.inl y0⟩
      rw [bI_f hn2, (he 0).1, (y1 0).1, ew0]
      exact ⟨rfl, fun z => by omega⟩
  by_cases hpn : pn C k = 0
  · have hvc : vcP C k r0 p0 r1 p1 = XF := if_neg (by omega)
    repeat' first
      | exact absurd hc (by decide)
      | with_reducible refine sX_thing hT' hk0 ?_ (fun hcu => ?_) (fun hcu => ?_)
      | simp (disch := omega) only [ub_X3_seek_89, ub_X3_seek_30, ue_X3_seek, t_X3_seek, zLg, zRf, zFq, zEl, zNz, zUf, zUe, zUr, zCe, zSn, gd_0, gd_1, gd_2, gd_3, gd_4, gd_5, gd_6, gd_7, gd_8, gd_9, gd_10, gd_11, gd_12, gd_13, gd_14, gd_15, gd_16, gd_17, gd_18, gd_19, se_0, se_1, se_2, se_3, se_4, se_5, se_6, se_7, se_8, se_9, se_10, se_11, se_12, se_13, se_14, se_15, se_16, se_17, se_18, se_19, e_const, e_load, e_store, e_iinc, e_dup, e_dup2, e_pop, e_iadd, e_isub, e_imul, e_ladd, e_lsub, e_lmul, e_iaddw, e_isubw, e_imulw, e_laddw, e_lsubw, e_lmulw, e_iand, e_ior, e_ishl, e_ishr, e_iushr, e_lcmp, e_imax, e_imin, e_idiv, e_irem, e_ldiv, e_lrem, e_i2l, e_i2b, e_l2i, e_i2c, e_getF, e_getR, e_putF, e_putR, e_putz, e_ald, e_aldR, e_ast, e_astb, e_astz, e_asta, e_len, e_acopy, e_new, e_newa, e_mna, e_this, e_room, e_call0, e_callv0, e_call1, e_callv1, e_inv1, e_invv1, e_call2, e_callv2, e_inv2, e_invv2, e_call3, e_callv3, e_inv3, e_invv3, e_call4, e_callv4, e_inv4, e_invv4, e_call5, e_callv5, e_inv5, e_invv5, e_call6, e_callv6, e_inv6, e_invv6, e_call7, e_callv7, e_inv7, e_invv7, e_call8, e_callv8, e_inv8, e_invv8, e_ret, e_retz, e_retc, e_retb, e_retv, e_skip, e_sco, e_tlen, e_tat, e_iz_eq0, e_iz_eq1, e_iz_ne0, e_iz_ne1, add0, sc_d, sc_t, inI_e, inL_e, up_eq, true_or, or_true, or_false, false_or, and_true, true_and, not_false_eq_true, Int.reduceAdd, Int.reduceSub, Int.reduceMul, Int.reduceNeg, e_it1, e_it2, e_it3, hRf', hel, ee2, e0, e1, e3, f42]
      | with_reducible first | refine ic_ge (fun hc => ?_) (fun hc => ?_) | refine ic_lt (fun hc => ?_) (fun hc => ?_) | refine ic_ne (fun hc => ?_) (fun hc => ?_) | refine ic_eq (fun hc => ?_) (fun hc => ?_) | refine ic_le (fun hc => ?_) (fun hc => ?_) | refine ic_gt (fun hc => ?_) (fun hc => ?_) | refine iz_eq (fun hc => ?_) (fun hc => ?_) | refine iz_ne (fun hc => ?_) (fun hc => ?_) | refine iz_lt (fun hc => ?_) (fun hc => ?_) | refine iz_ge (fun hc => ?_) (fun hc => ?_) | refine iz_gt (fun hc => ?_) (fun hc => ?_) | refine iz_le (fun hc => ?_) (fun hc => ?_) | refine iz_nu (fun hc => ?_) (fun hc => ?_) | refine iz_nn (fun hc => ?_) (fun hc => ?_)
      | omega
      | (exfalso; omega)
    exact fin F2 E2 frI.rf frI.rf (fun _ _ _ _ => ⟨rfl, rfl⟩) (stay F2 E2 (fun _ => ⟨rfl, rfl⟩) fun z => absurd z.1 (by omega))
  · have hvc : vcP C k r0 p0 r1 p1 = wcost C (pt C k) r0 p0 r1 p1 := if_pos (by omega)
    repeat' first
      | exact absurd hc (by decide)
      | with_reducible refine sX_thing hT' hk0 ?_ (fun hcu => ?_) (fun hcu => ?_)
      | simp (disch := omega) only [ub_X3_seek_89, ub_X3_seek_30, ue_X3_seek, t_X3_seek, zLg, zRf, zFq, zEl, zNz, zUf, zUe, zUr, zCe, zSn, gd_0, gd_1, gd_2, gd_3, gd_4, gd_5, gd_6, gd_7, gd_8, gd_9, gd_10, gd_11, gd_12, gd_13, gd_14, gd_15, gd_16, gd_17, gd_18, gd_19, se_0, se_1, se_2, se_3, se_4, se_5, se_6, se_7, se_8, se_9, se_10, se_11, se_12, se_13, se_14, se_15, se_16, se_17, se_18, se_19, e_const, e_load, e_store, e_iinc, e_dup, e_dup2, e_pop, e_iadd, e_isub, e_imul, e_ladd, e_lsub, e_lmul, e_iaddw, e_isubw, e_imulw, e_laddw, e_lsubw, e_lmulw, e_iand, e_ior, e_ishl, e_ishr, e_iushr, e_lcmp, e_imax, e_imin, e_idiv, e_irem, e_ldiv, e_lrem, e_i2l, e_i2b, e_l2i, e_i2c, e_getF, e_getR, e_putF, e_putR, e_putz, e_ald, e_aldR, e_ast, e_astb, e_astz, e_asta, e_len, e_acopy, e_new, e_newa, e_mna, e_this, e_room, e_call0, e_callv0, e_call1, e_callv1, e_inv1, e_invv1, e_call2, e_callv2, e_inv2, e_invv2, e_call3, e_callv3, e_inv3, e_invv3, e_call4, e_callv4, e_inv4, e_invv4, e_call5, e_callv5, e_inv5, e_invv5, e_call6, e_callv6, e_inv6, e_invv6, e_call7, e_callv7, e_inv7, e_invv7, e_call8, e_callv8, e_inv8, e_invv8, e_ret, e_retz, e_retc, e_retb, e_retv, e_skip, e_sco, e_tlen, e_tat, e_iz_eq0, e_iz_eq1, e_iz_ne0, e_iz_ne1, add0, sc_d, sc_t, inI_e, inL_e, up_eq, true_or, or_true, or_false, false_or, and_true, true_and, not_false_eq_true, Int.reduceAdd, Int.reduceSub, Int.reduceMul, Int.reduceNeg, e_it1, e_it2, e_it3, hRf', hel, ee2, e0, e1, e3, f42]
      | with_reducible first | refine ic_ge (fun hc => ?_) (fun hc => ?_) | refine ic_lt (fun hc => ?_) (fun hc => ?_) | refine ic_ne (fun hc => ?_) (fun hc => ?_) | refine ic_eq (fun hc => ?_) (fun hc => ?_) | refine ic_le (fun hc => ?_) (fun hc => ?_) | refine ic_gt (fun hc => ?_) (fun hc => ?_) | refine iz_eq (fun hc => ?_) (fun hc => ?_) | refine iz_ne (fun hc => ?_) (fun hc => ?_) | refine iz_lt (fun hc => ?_) (fun hc => ?_) | refine iz_ge (fun hc => ?_) (fun hc => ?_) | refine iz_gt (fun hc => ?_) (fun hc => ?_) | refine iz_le (fun hc => ?_) (fun hc => ?_) | refine iz_nu (fun hc => ?_) (fun hc => ?_) | refine iz_nn (fun hc => ?_) (fun hc => ?_)
      | omega
      | (exfalso; omega)
    refine one (a + 45 + 8 * k) 1 (pt C k) F2 E2 _ _ _ (Or.inr rfl) tP wP hmP hM2 (Or.inr rfl) ee2 (by omega) fun F3 E3 _ m1 m2 m3 m4 => ?_
    repeat' first
      | exact absurd hc (by decide)
      | simp (disch := omega) only [ub_X3_seek_89, ub_X3_seek_30, ue_X3_seek, t_X3_seek, zLg, zRf, zFq, zEl, zNz, zUf, zUe, zUr, zCe, zSn, gd_0, gd_1, gd_2, gd_3, gd_4, gd_5, gd_6, gd_7, gd_8, gd_9, gd_10, gd_11, gd_12, gd_13, gd_14, gd_15, gd_16, gd_17, gd_18, gd_19, se_0, se_1, se_2, se_3, se_4, se_5, se_6, se_7, se_8, se_9, se_10, se_11, se_12, se_13, se_14, se_15, se_16, se_17, se_18, se_19, e_const, e_load, e_store, e_iinc, e_dup, e_dup2, e_pop, e_iadd, e_isub, e_imul, e_ladd, e_lsub, e_lmul, e_iaddw, e_isubw, e_imulw, e_laddw, e_lsubw, e_lmulw, e_iand, e_ior, e_ishl, e_ishr, e_iushr, e_lcmp, e_imax, e_imin, e_idiv, e_irem, e_ldiv, e_lrem, e_i2l, e_i2b, e_l2i, e_i2c, e_getF, e_getR, e_putF, e_putR, e_putz, e_ald, e_aldR, e_ast, e_astb, e_astz, e_asta, e_len, e_acopy, e_new, e_newa, e_mna, e_this, e_room, e_call0, e_callv0, e_call1, e_callv1, e_inv1, e_invv1, e_call2, e_callv2, e_inv2, e_invv2, e_call3, e_callv3, e_inv3, e_invv3, e_call4, e_callv4, e_inv4, e_invv4, e_call5, e_callv5, e_inv5, e_invv5, e_call6, e_callv6, e_inv6, e_invv6, e_call7, e_callv7, e_inv7, e_invv7, e_call8, e_callv8, e_inv8, e_invv8, e_ret, e_retz, e_retc, e_retb, e_retv, e_skip, e_sco, e_tlen, e_tat, e_iz_eq0, e_iz_eq1, e_iz_ne0, e_iz_ne1, add0, sc_d, sc_t, inI_e, inL_e, up_eq, true_or, or_true, or_false, false_or, and_true, true_and, not_false_eq_true, Int.reduceAdd, Int.reduceSub, Int.reduceMul, Int.reduceNeg, e_it1, e_it2, e_it3]
      | with_reducible first | refine ic_ge (fun hc => ?_) (fun hc => ?_) | refine ic_lt (fun hc => ?_) (fun hc => ?_) | refine ic_ne (fun hc => ?_) (fun hc => ?_) | refine ic_eq (fun hc => ?_) (fun hc => ?_) | refine ic_le (fun hc => ?_) (fun hc => ?_) | refine ic_gt (fun hc => ?_) (fun hc => ?_) | refine iz_eq (fun hc => ?_) (fun hc => ?_) | refine iz_ne (fun hc => ?_) (fun hc => ?_) | refine iz_lt (fun hc => ?_) (fun hc => ?_) | refine iz_ge (fun hc => ?_) (fun hc => ?_) | refine iz_gt (fun hc => ?_) (fun hc => ?_) | refine iz_le (fun hc => ?_) (fun hc => ?_) | refine iz_nu (fun hc => ?_) (fun hc => ?_) | refine iz_nn (fun hc => ?_) (fun hc => ?_)
      | omega
      | (exfalso; omega)
    rw [← hvc] at m4
    have hb2 : beats (F2 w 0) (F2 w 2) (F2 w 3) (vcP C k r0 p0 r1 p1) (pt C k 4) ↔ cutB C k (vwP C k r0 p0 r1 p1) (vcP C k r0 p0 r1 p1) := by
      unfold beats cutB
      rw [e4p]
      rcases g4 with ⟨y0, y1, y2, y3, y4, y5, y6, y7⟩ | ⟨y0, y1⟩
      · rw [y1, y3, y4, e4w, Int.mul_one]
        have : wcost C (wh C k) r0 p0 r1 p1 = vwP C k r0 p0 r1 p1 := rfl
        rw [this]
        constructor
        · rintro ⟨z1, z2 | z2⟩
          · omega
          · exact ⟨z1, Or.inr z2⟩
        · rintro ⟨z1, z2 | z2⟩
          · exact absurd y0 z2
          · exact ⟨z1, Or.inr z2⟩
      · rw [(y1 0).1, ew0]
        exact ⟨fun z => ⟨z.1, Or.inl y0⟩, fun z => ⟨z.1, Or.inl rfl⟩⟩
    rw [hb2] at m4
    rcases m4 with ⟨y0, y1, y2, y3, y4, y5, y6, y7⟩ | ⟨y0, y1⟩
    · refine fin F3 E3 m1 m2 m3 ?_
      unfold wyM
      rw [b_0, b_1, b_2, b_3, b_4, b_5, bI_t y0, bI_t (Or.inr y0.1), if_pos rfl, if_pos rfl, if_pos rfl]
      refine ⟨y1, fun _ => ⟨y2, by rw [y3, e4p], y4, by rw [y5, e4p], y6, fun i hi => ?_⟩⟩
      rw [b_g, bI_t y0, if_pos rfl]
      exact y7 i hi
    · exact fin F3 E3 m1 m2 m3 (stay F3 E3 y1 y0)
end SEEK

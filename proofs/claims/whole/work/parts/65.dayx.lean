/-! ===== the class's day: where it lies, what it says ===== -/
def dyT (d : Int) (L : Int → Int) (R : Int → Int → Int) : Prop := (0 ≤ d) ∧ (R d 2 = d + 1) ∧ (R d 3 = d + 12) ∧ (R d 4 = d + 13) ∧ (R d 5 = d + 14) ∧ (R d 6 = d + 15) ∧ (R d 7 = d + 16) ∧ (L (d + 1) = 10) ∧ (L (d + 12) = 8) ∧ (L (d + 13) = 11) ∧ (L (d + 14) = 11) ∧ (L (d + 15) = 11) ∧ (L (d + 16) = 11) ∧ (∀ w : Int, 0 ≤ w → w < 10 → R (d + 1) w = d + 2 + w) ∧ (∀ w : Int, 0 ≤ w → w < 10 → L (d + 2 + w) = 72)
theorem dt_p {d : Int} {L : Int → Int} {R : Int → Int → Int} (h : dyT d L R) : 0 ≤ d := h.1
theorem dt_2 {d : Int} {L : Int → Int} {R : Int → Int → Int} (h : dyT d L R) : R d 2 = d + 1 := h.2.1
theorem dt_3 {d : Int} {L : Int → Int} {R : Int → Int → Int} (h : dyT d L R) : R d 3 = d + 12 := h.2.2.1
theorem dt_4 {d : Int} {L : Int → Int} {R : Int → Int → Int} (h : dyT d L R) : R d 4 = d + 13 := h.2.2.2.1
theorem dt_5 {d : Int} {L : Int → Int} {R : Int → Int → Int} (h : dyT d L R) : R d 5 = d + 14 := h.2.2.2.2.1
theorem dt_6 {d : Int} {L : Int → Int} {R : Int → Int → Int} (h : dyT d L R) : R d 6 = d + 15 := h.2.2.2.2.2.1
theorem dt_7 {d : Int} {L : Int → Int} {R : Int → Int → Int} (h : dyT d L R) : R d 7 = d + 16 := h.2.2.2.2.2.2.1
theorem dt_l1 {d : Int} {L : Int → Int} {R : Int → Int → Int} (h : dyT d L R) : L (d + 1) = 10 := h.2.2.2.2.2.2.2.1
theorem dt_l12 {d : Int} {L : Int → Int} {R : Int → Int → Int} (h : dyT d L R) : L (d + 12) = 8 := h.2.2.2.2.2.2.2.2.1
theorem dt_l13 {d : Int} {L : Int → Int} {R : Int → Int → Int} (h : dyT d L R) : L (d + 13) = 11 := h.2.2.2.2.2.2.2.2.2.1
theorem dt_l14 {d : Int} {L : Int → Int} {R : Int → Int → Int} (h : dyT d L R) : L (d + 14) = 11 := h.2.2.2.2.2.2.2.2.2.2.1
theorem dt_l15 {d : Int} {L : Int → Int} {R : Int → Int → Int} (h : dyT d L R) : L (d + 15) = 11 := h.2.2.2.2.2.2.2.2.2.2.2.1
theorem dt_l16 {d : Int} {L : Int → Int} {R : Int → Int → Int} (h : dyT d L R) : L (d + 16) = 11 := h.2.2.2.2.2.2.2.2.2.2.2.2.1
theorem dt_r {d : Int} {L : Int → Int} {R : Int → Int → Int} (h : dyT d L R) : ∀ w : Int, 0 ≤ w → w < 10 → R (d + 1) w = d + 2 + w := h.2.2.2.2.2.2.2.2.2.2.2.2.2.1
theorem dt_lr {d : Int} {L : Int → Int} {R : Int → Int → Int} (h : dyT d L R) : ∀ w : Int, 0 ≤ w → w < 10 → L (d + 2 + w) = 72 := h.2.2.2.2.2.2.2.2.2.2.2.2.2.2
/-- what a day rests on -/
def dyS (d a y : Int) (C : Cy) (L : Int → Int) (R F E : Int → Int → Int) : Prop := (dyT d L R) ∧ (R d 8 = a) ∧ (R d 9 = y) ∧ (ctT a L R) ∧ (ctM a C F E) ∧ (ctW C) ∧ (0 ≤ y ∧ L y = 8 ∧ a + 105 ≤ y ∧ y + 17 ≤ d) ∧ (∀ o : Int, 0 ≤ o → o < 8 → R y o = y + 1 + 2 * o ∧ wyT (y + 1 + 2 * o) L R) ∧ (∀ o : Int, 0 ≤ o → o < C 0 4 0 → wyM (y + 1 + 2 * o) (bO C o) (gO C o) F E)
theorem ds_t {d a y : Int} {C : Cy} {L : Int → Int} {R F E : Int → Int → Int} (h : dyS d a y C L R F E) : dyT d L R := h.1
theorem ds_8 {d a y : Int} {C : Cy} {L : Int → Int} {R F E : Int → Int → Int} (h : dyS d a y C L R F E) : R d 8 = a := h.2.1
theorem ds_9 {d a y : Int} {C : Cy} {L : Int → Int} {R F E : Int → Int → Int} (h : dyS d a y C L R F E) : R d 9 = y := h.2.2.1
theorem ds_ct {d a y : Int} {C : Cy} {L : Int → Int} {R F E : Int → Int → Int} (h : dyS d a y C L R F E) : ctT a L R := h.2.2.2.1
theorem ds_cm {d a y : Int} {C : Cy} {L : Int → Int} {R F E : Int → Int → Int} (h : dyS d a y C L R F E) : ctM a C F E := h.2.2.2.2.1
theorem ds_cw {d a y : Int} {C : Cy} {L : Int → Int} {R F E : Int → Int → Int} (h : dyS d a y C L R F E) : ctW C := h.2.2.2.2.2.1
theorem ds_y {d a y : Int} {C : Cy} {L : Int → Int} {R F E : Int → Int → Int} (h : dyS d a y C L R F E) : 0 ≤ y ∧ L y = 8 ∧ a + 105 ≤ y ∧ y + 17 ≤ d := h.2.2.2.2.2.2.1
theorem ds_yr {d a y : Int} {C : Cy} {L : Int → Int} {R F E : Int → Int → Int} (h : dyS d a y C L R F E) : ∀ o : Int, 0 ≤ o → o < 8 → R y o = y + 1 + 2 * o ∧ wyT (y + 1 + 2 * o) L R := h.2.2.2.2.2.2.2.1
theorem ds_w {d a y : Int} {C : Cy} {L : Int → Int} {R F E : Int → Int → Int} (h : dyS d a y C L R F E) : ∀ o : Int, 0 ≤ o → o < C 0 4 0 → wyM (y + 1 + 2 * o) (bO C o) (gO C o) F E := h.2.2.2.2.2.2.2.2
theorem wyM.fi {lo hi w : Int} {b : Int → Int} {gs : Nat → Int} {F F' E E' : Int → Int → Int} (h : wyM w b gs F E) (h1 : frI lo hi F F') (h2 : frI lo hi E E') (hd : hi ≤ w ∨ w + 2 ≤ lo) : wyM w b gs F' E' := by
  obtain ⟨a, c⟩ := h
  refine ⟨(h1 _ _ (by omega)).trans a, fun z => ?_⟩
  obtain ⟨c1, c2, c3, c4, c5, c6⟩ := c z
  exact ⟨(h1 _ _ (by omega)).trans c1, (h1 _ _ (by omega)).trans c2, (h1 _ _ (by omega)).trans c3, (h1 _ _ (by omega)).trans c4, (h1 _ _ (by omega)).trans c5, fun i hi => (h2 _ _ (by omega)).trans (c6 i hi)⟩
theorem dyS.fi {d a y : Int} {C : Cy} {L : Int → Int} {R F F' E E' : Int → Int → Int} (h : dyS d a y C L R F E) (h1 : frI d (d + 17) F F') (h2 : frI d (d + 17) E E') : dyS d a y C L R F' E' := by
  have hy := ds_y h
  have b4 := cw_4 (ds_cw h)
  exact ⟨ds_t h, ds_8 h, ds_9 h, ds_ct h, (ds_cm h).fi (ds_cw h) h1 h2 (by omega), ds_cw h, hy, ds_yr h, fun o x z => (ds_w h o x z).fi h1 h2 (by omega)⟩
/-- an order's way, as the day reads it -/
theorem ds_o {d a y : Int} {C : Cy} {L : Int → Int} {R F E : Int → Int → Int} (h : dyS d a y C L R F E) {o : Int} (h0 : 0 ≤ o) (h1 : o < C 0 4 0) (hf : bO C o 0 = 1) : R y o = y + 1 + 2 * o ∧ R (y + 1 + 2 * o) 6 = y + 1 + 2 * o + 1 ∧ L (y + 1 + 2 * o + 1) = 5 ∧ F (y + 1 + 2 * o) 1 = bO C o 1 ∧ F (y + 1 + 2 * o) 5 = bO C o 5 ∧ (∀ p : Int, 0 ≤ p → p < bO C o 5 → E (y + 1 + 2 * o + 1) p = gO C o p.toNat) := by
  have b4 := cw_4 (ds_cw h)
  obtain ⟨r1, r2, r3, r4⟩ := ds_yr h o h0 (by omega)
  obtain ⟨w1, w2⟩ := ds_w h o h0 h1
  obtain ⟨w3, w4, w5, w6, w7, w8⟩ := w2 hf
  refine ⟨r1, r3, r4, w3, w7, fun p x z => ?_⟩
  have := w8 p.toNat (by omega)
  rw [Int.toNat_of_nonneg x] at this
  exact this
def dR (d : Int) (D E : Int → Int → Int) : Prop := ∀ w l : Int, 0 ≤ w → w < 10 → 0 ≤ l → l < D 10 1 → E (d + 2 + w) l = D w l
theorem dR_up {d w0 l0 v : Int} {D E : Int → Int → Int} (h : dR d D E) (h1 : w0 < 10) : dR d (up D w0 l0 v) (up E (d + 2 + w0) l0 v) := by
  intro w l a b x y
  rw [up_ne (by omega)] at y
  by_cases z : w = w0 ∧ l = l0
  · rw [up_at (by omega) z.2, up_at z.1 z.2]
  · rw [up_ne (by omega), up_ne (by omega)]
    exact h w l a b x y
theorem dR.fr {d : Int} {D E E' : Int → Int → Int} (h : dR d D E) (he : ∀ b j : Int, d + 2 ≤ b → b < d + 12 → E' b j = E b j) : dR d D E' := fun w l a b x y => (he _ _ (by omega) (by omega)).trans (h w l a b x y)
def onV (D : Int → Int → Int) (c v : Int) : Prop := (v = -2 ∧ ∀ l : Int, 0 ≤ l → l < D 10 1 → D 6 l ≠ c) ∨ (0 ≤ v ∧ v < D 10 1 ∧ D 6 v = c)
def bzV (C : Cy) (D : Int → Int → Int) (g v : Int) : Prop := (v = -2 ∧ ∀ l : Int, 0 ≤ l → l < D 10 1 → ¬ (D 3 l = 4 ∧ gah C D l = g)) ∨ (0 ≤ v ∧ v < D 10 1 ∧ D 3 v = 4 ∧ gah C D v = g)
def cRr (d : Int) (D E : Int → Int → Int) : Prop := ∀ c : Int, 0 ≤ c → c < 8 → onV D c (E (d + 12) c)
def gRr (d : Int) (C : Cy) (D E : Int → Int → Int) : Prop := ∀ g : Int, 0 ≤ g → g < 11 → bzV C D g (E (d + 13) g)
def tRr (d : Int) (D E : Int → Int → Int) : Prop := ∀ g : Int, 0 ≤ g → g < 11 → E (d + 14) g = D 11 g ∧ E (d + 15) g = D 12 g
/-- what a day of the class says -/
def dyX (d : Int) (C : Cy) (D F E : Int → Int → Int) : Prop := F d 0 = D 10 0 ∧ F d 1 = D 10 1 ∧ dR d D E ∧ cRr d D E ∧ gRr d C D E ∧ tRr d D E
/-- the carts, where a load's cart is the same -/
theorem onV_same {D D' : Int → Int → Int} (h6 : ∀ l : Int, 0 ≤ l → l < D 10 1 → D' 6 l = D 6 l) (h10 : D' 10 1 = D 10 1) {c v : Int} (h : onV D c v) : onV D' c v := by
  unfold onV at *
  rw [h10]
  rcases h with ⟨a, b⟩ | ⟨a, b, e⟩
  · exact Or.inl ⟨a, fun l x y => by rw [h6 l x y]; exact b l x y⟩
  · exact Or.inr ⟨a, b, by rw [h6 v a b]; exact e⟩
theorem bzV_same {C : Cy} {D D' : Int → Int → Int} (h4 : ∀ l : Int, 0 ≤ l → l < D 10 1 → ((D' 3 l = 4 ↔ D 3 l = 4) ∧ (D 3 l = 4 → gah C D' l = gah C D l))) (h10 : D' 10 1 = D 10 1) {g v : Int} (h : bzV C D g v) : bzV C D' g v := by
  unfold bzV at *
  rw [h10]
  rcases h with ⟨a, b⟩ | ⟨a, b, e, f⟩
  · exact Or.inl ⟨a, fun l x y z => b l x y ⟨(h4 l x y).1.mp z.1, by rw [← (h4 l x y).2 ((h4 l x y).1.mp z.1)]; exact z.2⟩⟩
  · exact Or.inr ⟨a, b, (h4 v a b).1.mpr e, by rw [(h4 v a b).2 e]; exact f⟩
/-- what the way ahead of a load rests on -/
def ldV (C : Cy) (D : Int → Int → Int) (l : Int) : Prop := (0 ≤ D 0 l ∧ D 0 l < C 0 4 0) ∧ bO C (D 0 l) 0 = 1 ∧ (0 ≤ D 8 l ∧ D 8 l ≤ bO C (D 0 l) 5)
theorem ldW.v {C : Cy} {D : Int → Int → Int} {l : Int} (h : ldW C D l) : ldV C D l := ⟨h.1, h.2.1, h.2.2.2.2.2.2.2.1⟩
theorem ldV.up {C : Cy} {D : Int → Int → Int} {l w v l2 : Int} (h : ldV C D l) (hw : w ≠ 0 ∧ w ≠ 8) : ldV C (up D w l2 v) l := by
  unfold ldV at *
  rw [up_ne (by omega), up_ne (by omega)]
  exact h
theorem gah_v {C : Cy} (hW : ctW C) {D : Int → Int → Int} {l : Int} (h : ldV C D l) : gah C D l = -1 ∧ D 8 l = bO C (D 0 l) 5 ∨ 0 ≤ gah C D l ∧ gah C D l < C 0 1 0 ∧ D 8 l < bO C (D 0 l) 5 := by
  obtain ⟨a1, a2, a3⟩ := h
  unfold gah
  split
  · next z =>
    have := gO_b hW a1.1 a1.2 a2 (i := (D 8 l).toNat) (by omega)
    exact Or.inr ⟨this.1, this.2, z⟩
  · exact Or.inl ⟨rfl, by omega⟩
theorem plah_v {C : Cy} (hW : ctW C) {D : Int → Int → Int} {l : Int} (h : ldV C D l) : 0 ≤ plah C D l ∧ plah C D l < 12 := by
  have g := gah_v hW h
  unfold plah
  split
  · exact cw_o4 hW _ h.1.1 h.1.2
  · exact cw_g1 hW _ (by omega) (by omega)
section DAYX
variable {L : Int → Int} {R F E : Int → Int → Int} {N : Nat} {Q : xQ} {d a y l g : Int} {C : Cy} {D : Int → Int → Int}
theorem sX_gateAhead (hS : dyS d a y C L R F E) (hR : dR d D E) (hl : ldV C D l) (hn : D 10 1 ≤ 72) (h0 : 0 ≤ l) (h1 : l < D 10 1) (hQ : Q (gah C D l) (L, R, F, E, N)) : T_X2_gateAhead [d, l] (L, R, F, E, N) Q := by
  have hT := ds_t hS
  have pd := dt_p hT
  have hy := ds_y hS
  have b4 := cw_4 (ds_cw hS)
  obtain ⟨a0, af, a8⟩ := hl
  obtain ⟨w0, w6, wl, w1, w5, wg⟩ := ds_o hS a0.1 a0.2 af
  have n5 := bO_5 (ds_cw hS) a0.1 a0.2
  have r0 := hR 0 l (by omega) (by omega) h0 h1
  have r8 := hR 8 l (by omega) (by omega) h0 h1
  repeat' first
    | exact absurd hc (by decide)
    | simp (disch := omega) only [ub_X2_gateAhead_42, ue_X2_gateAhead, t_X2_gateAhead, zLg, zRf, zFq, zEl, zNz, zUf, zUe, zUr, zCe, zSn, gd_0, gd_1, gd_2, gd_3, gd_4, gd_5, gd_6, gd_7, gd_8, gd_9, gd_10, gd_11, gd_12, gd_13, gd_14, gd_15, gd_16, gd_17, gd_18, gd_19, se_0, se_1, se_2, se_3, se_4, se_5, se_6, se_7, se_8, se_9, se_10, se_11, se_12, se_13, se_14, se_15, se_16, se_17, se_18, se_19, e_const, e_load, e_store, e_iinc, e_dup, e_dup2, e_pop, e_iadd, e_isub, e_imul, e_ladd, e_lsub, e_lmul, e_iaddw, e_isubw, e_imulw, e_laddw, e_lsubw, e_lmulw, e_iand, e_ior, e_ishl, e_ishr, e_iushr, e_lcmp, e_imax, e_imin, e_idiv, e_irem, e_ldiv, e_lrem, e_i2l, e_i2b, e_l2i, e_i2c, e_getF, e_getR, e_putF, e_putR, e_putz, e_ald, e_aldR, e_ast, e_astb, e_astz, e_asta, e_len, e_acopy, e_new, e_newa, e_mna, e_this, e_room, e_call0, e_callv0, e_call1, e_callv1, e_inv1, e_invv1, e_call2, e_callv2, e_inv2, e_invv2, e_call3, e_callv3, e_inv3, e_invv3, e_call4, e_callv4, e_inv4, e_invv4, e_call5, e_callv5, e_inv5, e_invv5, e_call6, e_callv6, e_inv6, e_invv6, e_call7, e_callv7, e_inv7, e_invv7, e_call8, e_callv8, e_inv8, e_invv8, e_ret, e_retz, e_retc, e_retb, e_retv, e_skip, e_sco, e_tlen, e_tat, e_iz_eq0, e_iz_eq1, e_iz_ne0, e_iz_ne1, add0, sc_d, sc_t, inI_e, inL_e, up_eq, true_or, or_true, or_false, false_or, and_true, true_and, not_false_eq_true, Int.reduceAdd, Int.reduceSub, Int.reduceMul, Int.reduceNeg, ds_9 hS, dt_2 hT, dt_l1 hT, dt_r hT, dt_lr hT, r0, r8, hy.2.1, w0, w6, wl, w5, wg]
    | with_reducible first | refine izl_lt (fun hc => ?_) (fun hc => ?_) | refine izl_ge (fun hc => ?_) (fun hc => ?_) | refine izl_eq (fun hc => ?_) (fun hc => ?_) | refine ic_ge (fun hc => ?_) (fun hc => ?_) | refine ic_lt (fun hc => ?_) (fun hc => ?_) | refine ic_ne (fun hc => ?_) (fun hc => ?_) | refine ic_eq (fun hc => ?_) (fun hc => ?_) | refine ic_le (fun hc => ?_) (fun hc => ?_) | refine ic_gt (fun hc => ?_) (fun hc => ?_) | refine iz_eq (fun hc => ?_) (fun hc => ?_) | refine iz_ne (fun hc => ?_) (fun hc => ?_) | refine iz_lt (fun hc => ?_) (fun hc => ?_) | refine iz_ge (fun hc => ?_) (fun hc => ?_) | refine iz_gt (fun hc => ?_) (fun hc => ?_) | refine iz_le (fun hc => ?_) (fun hc => ?_) | refine iz_nu (fun hc => ?_) (fun hc => ?_) | refine iz_nn (fun hc => ?_) (fun hc => ?_)
    | omega
    | (exfalso; omega)
  · unfold gah at hQ; rw [if_neg (by omega)] at hQ; exact hQ
  · unfold gah at hQ; rw [if_pos (by omega)] at hQ; exact hQ
theorem sX_placeAhead (hS : dyS d a y C L R F E) (hR : dR d D E) (hl : ldV C D l) (hn : D 10 1 ≤ 72) (h0 : 0 ≤ l) (h1 : l < D 10 1) (hQ : Q (plah C D l) (L, R, F, E, N)) : T_X2_placeAhead [d, l] (L, R, F, E, N) Q := by
  have hT := ds_t hS
  have hT2 := ds_ct hS
  have hM := ds_cm hS
  have pd := dt_p hT
  have pa := ct_p hT2
  have b1 := cw_1 (ds_cw hS)
  have b4 := cw_4 (ds_cw hS)
  have gb := gah_v (ds_cw hS) hl
  have r0 := hR 0 l (by omega) (by omega) h0 h1
  have a0 := hl.1
  repeat' first
    | exact absurd hc (by decide)
    | with_reducible refine sX_gateAhead hS hR hl hn h0 h1 ?_
    | simp (disch := omega) only [ub_X2_placeAhead_43, ue_X2_placeAhead, t_X2_placeAhead, zLg, zRf, zFq, zEl, zNz, zUf, zUe, zUr, zCe, zSn, gd_0, gd_1, gd_2, gd_3, gd_4, gd_5, gd_6, gd_7, gd_8, gd_9, gd_10, gd_11, gd_12, gd_13, gd_14, gd_15, gd_16, gd_17, gd_18, gd_19, se_0, se_1, se_2, se_3, se_4, se_5, se_6, se_7, se_8, se_9, se_10, se_11, se_12, se_13, se_14, se_15, se_16, se_17, se_18, se_19, e_const, e_load, e_store, e_iinc, e_dup, e_dup2, e_pop, e_iadd, e_isub, e_imul, e_ladd, e_lsub, e_lmul, e_iaddw, e_isubw, e_imulw, e_laddw, e_lsubw, e_lmulw, e_iand, e_ior, e_ishl, e_ishr, e_iushr, e_lcmp, e_imax, e_imin, e_idiv, e_irem, e_ldiv, e_lrem, e_i2l, e_i2b, e_l2i, e_i2c, e_getF, e_getR, e_putF, e_putR, e_putz, e_ald, e_aldR, e_ast, e_astb, e_astz, e_asta, e_len, e_acopy, e_new, e_newa, e_mna, e_this, e_room, e_call0, e_callv0, e_call1, e_callv1, e_inv1, e_invv1, e_call2, e_callv2, e_inv2, e_invv2, e_call3, e_callv3, e_inv3, e_invv3, e_call4, e_callv4, e_inv4, e_invv4, e_call5, e_callv5, e_inv5, e_invv5, e_call6, e_callv6, e_inv6, e_invv6, e_call7, e_callv7, e_inv7, e_invv7, e_call8, e_callv8, e_inv8, e_invv8, e_ret, e_retz, e_retc, e_retb, e_retv, e_skip, e_sco, e_tlen, e_tat, e_iz_eq0, e_iz_eq1, e_iz_ne0, e_iz_ne1, add0, sc_d, sc_t, inI_e, inL_e, up_eq, true_or, or_true, or_false, false_or, and_true, true_and, not_false_eq_true, Int.reduceAdd, Int.reduceSub, Int.reduceMul, Int.reduceNeg, ds_8 hS, dt_2 hT, dt_l1 hT, dt_r hT, dt_lr hT, r0, ct_6 hT2, ct_9 hT2, ct_l2 hT2, ct_l30 hT2, ct_gr hT2, ct_gl hT2, ct_or hT2, ct_ol hT2, cm_g hM, cm_o hM]
    | with_reducible first | refine izl_lt (fun hc => ?_) (fun hc => ?_) | refine izl_ge (fun hc => ?_) (fun hc => ?_) | refine izl_eq (fun hc => ?_) (fun hc => ?_) | refine ic_ge (fun hc => ?_) (fun hc => ?_) | refine ic_lt (fun hc => ?_) (fun hc => ?_) | refine ic_ne (fun hc => ?_) (fun hc => ?_) | refine ic_eq (fun hc => ?_) (fun hc => ?_) | refine ic_le (fun hc => ?_) (fun hc => ?_) | refine ic_gt (fun hc => ?_) (fun hc => ?_) | refine iz_eq (fun hc => ?_) (fun hc => ?_) | refine iz_ne (fun hc => ?_) (fun hc => ?_) | refine iz_lt (fun hc => ?_) (fun hc => ?_) | refine iz_ge (fun hc => ?_) (fun hc => ?_) | refine iz_gt (fun hc => ?_) (fun hc => ?_) | refine iz_le (fun hc => ?_) (fun hc => ?_) | refine iz_nu (fun hc => ?_) (fun hc => ?_) | refine iz_nn (fun hc => ?_) (fun hc => ?_)
    | omega
    | (exfalso; omega)
  · unfold plah at hQ; rw [if_neg (by omega)] at hQ; exact hQ
  · unfold plah at hQ; rw [if_pos (by omega)] at hQ; exact hQ
theorem sX_arrive (hS : dyS d a y C L R F E) (hR : dR d D E) (hF : F d 0 = D 10 0) (hl : ldV C D l) (hn : D 10 1 ≤ 72) (h0 : 0 ≤ l) (h1 : l < D 10 1) (hQ : ∀ E' : Int → Int → Int, dR d (arD C D l) E' → frI (d + 2) (d + 12) E E' → Q 0 (L, R, F, E', N)) : T_X2_arrive [d, l] (L, R, F, E, N) Q := by
  have hT := ds_t hS
  have pd := dt_p hT
  have gb := gah_v (ds_cw hS) hl
  repeat' first
    | exact absurd hc (by decide)
    | with_reducible refine sX_gateAhead hS hR hl hn h0 h1 ?_
    | simp (disch := omega) only [ub_X2_arrive_56, ue_X2_arrive, t_X2_arrive, zLg, zRf, zFq, zEl, zNz, zUf, zUe, zUr, zCe, zSn, gd_0, gd_1, gd_2, gd_3, gd_4, gd_5, gd_6, gd_7, gd_8, gd_9, gd_10, gd_11, gd_12, gd_13, gd_14, gd_15, gd_16, gd_17, gd_18, gd_19, se_0, se_1, se_2, se_3, se_4, se_5, se_6, se_7, se_8, se_9, se_10, se_11, se_12, se_13, se_14, se_15, se_16, se_17, se_18, se_19, e_const, e_load, e_store, e_iinc, e_dup, e_dup2, e_pop, e_iadd, e_isub, e_imul, e_ladd, e_lsub, e_lmul, e_iaddw, e_isubw, e_imulw, e_laddw, e_lsubw, e_lmulw, e_iand, e_ior, e_ishl, e_ishr, e_iushr, e_lcmp, e_imax, e_imin, e_idiv, e_irem, e_ldiv, e_lrem, e_i2l, e_i2b, e_l2i, e_i2c, e_getF, e_getR, e_putF, e_putR, e_putz, e_ald, e_aldR, e_ast, e_astb, e_astz, e_asta, e_len, e_acopy, e_new, e_newa, e_mna, e_this, e_room, e_call0, e_callv0, e_call1, e_callv1, e_inv1, e_invv1, e_call2, e_callv2, e_inv2, e_invv2, e_call3, e_callv3, e_inv3, e_invv3, e_call4, e_callv4, e_inv4, e_invv4, e_call5, e_callv5, e_inv5, e_invv5, e_call6, e_callv6, e_inv6, e_invv6, e_call7, e_callv7, e_inv7, e_invv7, e_call8, e_callv8, e_inv8, e_invv8, e_ret, e_retz, e_retc, e_retb, e_retv, e_skip, e_sco, e_tlen, e_tat, e_iz_eq0, e_iz_eq1, e_iz_ne0, e_iz_ne1, add0, sc_d, sc_t, inI_e, inL_e, up_eq, true_or, or_true, or_false, false_or, and_true, true_and, not_false_eq_true, Int.reduceAdd, Int.reduceSub, Int.reduceMul, Int.reduceNeg, hF, dt_2 hT, dt_l1 hT, dt_r hT, dt_lr hT]
    | with_reducible first | refine izl_lt (fun hc => ?_) (fun hc => ?_) | refine izl_ge (fun hc => ?_) (fun hc => ?_) | refine izl_eq (fun hc => ?_) (fun hc => ?_) | refine ic_ge (fun hc => ?_) (fun hc => ?_) | refine ic_lt (fun hc => ?_) (fun hc => ?_) | refine ic_ne (fun hc => ?_) (fun hc => ?_) | refine ic_eq (fun hc => ?_) (fun hc => ?_) | refine ic_le (fun hc => ?_) (fun hc => ?_) | refine ic_gt (fun hc => ?_) (fun hc => ?_) | refine iz_eq (fun hc => ?_) (fun hc => ?_) | refine iz_ne (fun hc => ?_) (fun hc => ?_) | refine iz_lt (fun hc => ?_) (fun hc => ?_) | refine iz_ge (fun hc => ?_) (fun hc => ?_) | refine iz_gt (fun hc => ?_) (fun hc => ?_) | refine iz_le (fun hc => ?_) (fun hc => ?_) | refine iz_nu (fun hc => ?_) (fun hc => ?_) | refine iz_nn (fun hc => ?_) (fun hc => ?_)
    | omega
    | (exfalso; omega)
  · refine hQ _ ?_ ((frI.up (by omega) (by omega)).tr (frI.up (by omega) (by omega)))
    unfold arD
    rw [if_neg (by omega)]
    exact dR_up (dR_up hR (by omega)) (by omega)
  · refine hQ _ ?_ ((frI.up (by omega) (by omega)).tr (frI.up (by omega) (by omega)))
    unfold arD
    rw [if_pos (by omega)]
    exact dR_up (dR_up hR (by omega)) (by omega)
theorem sX_leaveCart (hS : dyS d a y C L R F E) (hR : dR d D E) (hF : F d 0 = D 10 0) (hl : ldV C D l) (h6 : 0 ≤ D 6 l) (h68 : D 6 l < 8) (hn : D 10 1 ≤ 72) (h0 : 0 ≤ l) (h1 : l < D 10 1) (hQ : ∀ E' : Int → Int → Int, dR d (lcD C D l) E' → frI (d + 2) (d + 13) E E' → E' (d + 12) (D 6 l) = -2 → (∀ c : Int, c ≠ D 6 l → E' (d + 12) c = E (d + 12) c) → Q 0 (L, R, F, E', N)) : T_X2_leaveCart [d, l] (L, R, F, E, N) Q := by
  have hT := ds_t hS
  have pd := dt_p hT
  have r6 := hR 6 l (by omega) (by omega) h0 h1
  have hR1 : dR d (up D 6 l (-2)) (up (up E (d + 12) (D 6 l) (-2)) (d + 2 + 6) l (-2)) := dR_up (hR.fr fun b j x z => up_ne (by omega)) (by omega)
  have hf1 : frI d (d + 17) E (up (up E (d + 12) (D 6 l) (-2)) (d + 2 + 6) l (-2)) := (frI.up (by omega) (by omega)).tr (frI.up (by omega) (by omega))
  have hS1 := hS.fi (frI.rf (F := F)) hf1
  have hp1 : plah C (up D 6 l (-2)) l = plah C D l := plah_eq (up_ne (by omega)) (up_ne (by omega))
  have e10 : up D 6 l (-2) 10 1 = D 10 1 := up_ne (by omega)
  have hl1 : ldV C (up D 6 l (-2)) l := hl.up (by omega)
  repeat' first
    | exact absurd hc (by decide)
    | with_reducible refine sX_placeAhead hS1 hR1 hl1 ?_ h0 ?_ ?_
    | simp (disch := omega) only [ub_X2_leaveCart_28, ue_X2_leaveCart, t_X2_leaveCart, zLg, zRf, zFq, zEl, zNz, zUf, zUe, zUr, zCe, zSn, gd_0, gd_1, gd_2, gd_3, gd_4, gd_5, gd_6, gd_7, gd_8, gd_9, gd_10, gd_11, gd_12, gd_13, gd_14, gd_15, gd_16, gd_17, gd_18, gd_19, se_0, se_1, se_2, se_3, se_4, se_5, se_6, se_7, se_8, se_9, se_10, se_11, se_12, se_13, se_14, se_15, se_16, se_17, se_18, se_19, e_const, e_load, e_store, e_iinc, e_dup, e_dup2, e_pop, e_iadd, e_isub, e_imul, e_ladd, e_lsub, e_lmul, e_iaddw, e_isubw, e_imulw, e_laddw, e_lsubw, e_lmulw, e_iand, e_ior, e_ishl, e_ishr, e_iushr, e_lcmp, e_imax, e_imin, e_idiv, e_irem, e_ldiv, e_lrem, e_i2l, e_i2b, e_l2i, e_i2c, e_getF, e_getR, e_putF, e_putR, e_putz, e_ald, e_aldR, e_ast, e_astb, e_astz, e_asta, e_len, e_acopy, e_new, e_newa, e_mna, e_this, e_room, e_call0, e_callv0, e_call1, e_callv1, e_inv1, e_invv1, e_call2, e_callv2, e_inv2, e_invv2, e_call3, e_callv3, e_inv3, e_invv3, e_call4, e_callv4, e_inv4, e_invv4, e_call5, e_callv5, e_inv5, e_invv5, e_call6, e_callv6, e_inv6, e_invv6, e_call7, e_callv7, e_inv7, e_invv7, e_call8, e_callv8, e_inv8, e_invv8, e_ret, e_retz, e_retc, e_retb, e_retv, e_skip, e_sco, e_tlen, e_tat, e_iz_eq0, e_iz_eq1, e_iz_ne0, e_iz_ne1, add0, sc_d, sc_t, inI_e, inL_e, up_eq, true_or, or_true, or_false, false_or, and_true, true_and, not_false_eq_true, Int.reduceAdd, Int.reduceSub, Int.reduceMul, Int.reduceNeg, up_ne, r6, dt_2 hT, dt_3 hT, dt_l1 hT, dt_l12 hT, dt_r hT, dt_lr hT, hp1]
    | with_reducible first | refine izl_lt (fun hc => ?_) (fun hc => ?_) | refine izl_ge (fun hc => ?_) (fun hc => ?_) | refine izl_eq (fun hc => ?_) (fun hc => ?_) | refine ic_ge (fun hc => ?_) (fun hc => ?_) | refine ic_lt (fun hc => ?_) (fun hc => ?_) | refine ic_ne (fun hc => ?_) (fun hc => ?_) | refine ic_eq (fun hc => ?_) (fun hc => ?_) | refine ic_le (fun hc => ?_) (fun hc => ?_) | refine ic_gt (fun hc => ?_) (fun hc => ?_) | refine iz_eq (fun hc => ?_) (fun hc => ?_) | refine iz_ne (fun hc => ?_) (fun hc => ?_) | refine iz_lt (fun hc => ?_) (fun hc => ?_) | refine iz_ge (fun hc => ?_) (fun hc => ?_) | refine iz_gt (fun hc => ?_) (fun hc => ?_) | refine iz_le (fun hc => ?_) (fun hc => ?_) | refine iz_nu (fun hc => ?_) (fun hc => ?_) | refine iz_nn (fun hc => ?_) (fun hc => ?_)
    | omega
    | (exfalso; omega)
  have hR2 := dR_up (w0 := 2) (l0 := l) (v := plah C D l) hR1 (by omega)
  have hS2 := hS1.fi (frI.rf (F := F)) (frI.up (F := up (up E (d + 12) (D 6 l) (-2)) (d + 2 + 6) l (-2)) (a := d + 2 + 2) (i := l) (v := plah C D l) (by omega : d ≤ d + 2 + 2) (by omega))
  have e11 : up (up D 6 l (-2)) 2 l (plah C D l) 10 1 = D 10 1 := by rw [up_ne (by omega), e10]
  refine sX_arrive hS2 hR2 (by rw [up_ne (by omega), up_ne (by omega)]; exact hF) (hl1.up (by omega)) (by omega) h0 (by omega) fun E' q1 q2 => hQ E' q1 ?_ ?_ fun c hc => ?_
  · intro b j z
    rw [q2 _ _ (by omega)]
    simp (disch := omega) only [up_ne]
  · rw [q2 _ _ (by omega)]
    simp (disch := omega) only [up_ne, up_eq]
  · rw [q2 _ _ (by omega)]
    simp (disch := omega) only [up_ne]
theorem sX_leaveGate (hS : dyS d a y C L R F E) (hR : dR d D E) (hF : F d 0 = D 10 0) (hl : ldV C D l) (h8 : D 8 l < bO C (D 0 l) 5) (hn : D 10 1 ≤ 72) (h0 : 0 ≤ l) (h1 : l < D 10 1) (hQ : ∀ E' : Int → Int → Int, dR d (lgD C D l) E' → frI (d + 2) (d + 14) E E' → E' (d + 13) (gah C D l) = -2 → (∀ g : Int, g ≠ gah C D l → E' (d + 13) g = E (d + 13) g) → (∀ c : Int, E' (d + 12) c = E (d + 12) c) → Q 0 (L, R, F, E', N)) : T_X2_leaveGate [d, l] (L, R, F, E, N) Q := by
  have hT := ds_t hS
  have hT2 := ds_ct hS
  have hM := ds_cm hS
  have hW := ds_cw hS
  have pd := dt_p hT
  have pa := ct_p hT2
  have b0 := cw_0 hW
  have b1 := cw_1 hW
  have gb := (gah_v hW hl).resolve_left (by omega)
  have g0 := cw_g0 hW _ gb.1 gb.2.1
  have n5 := bO_5 hW hl.1.1 hl.1.2
  have r1 := hR 1 l (by omega) (by omega) h0 h1
  have r2 := hR 2 l (by omega) (by omega) h0 h1
  have r8 := hR 8 l (by omega) (by omega) h0 h1
  have a8 := hl.2.2
  have mc := cm_g hM (gah C D l) 0 gb.1 gb.2.1 (by omega) (by omega)
  have hy := ds_y hS
  -- behind the gate
  have fin : ∀ v : Int, v = (if D 1 l = C 2 (gah C D l) 0 then C 2 (gah C D l) 0 + 1 else C 2 (gah C D l) 0) → B_X2_leaveGate_58 Q [d, l, gah C D l, C 2 (gah C D l) 0] [v, l, d + 2 + 1] (L, R, F, up E (d + 13) (gah C D l) (-2), N) 0 0 := by
    intro v hv
    have e3 : up (up (up D 1 l v) 8 l (D 8 l + 1)) 3 l 1 = lgD0 C D l := by rw [hv]; rfl
    have hR3 : dR d (lgD0 C D l) (up (up (up (up E (d + 13) (gah C D l) (-2)) (d + 2 + 1) l v) (d + 2 + 8) l (D 8 l + 1)) (d + 2 + 3) l 1) := by
      rw [← e3]
      exact dR_up (dR_up (dR_up (hR.fr fun b j x z => up_ne (by omega)) (by omega)) (by omega)) (by omega)
    have hf3 : frI d (d + 17) E (up (up (up (up E (d + 13) (gah C D l) (-2)) (d + 2 + 1) l v) (d + 2 + 8) l (D 8 l + 1)) (d + 2 + 3) l 1) := fun b j z => by simp (disch := omega) only [up_ne]
    have hS3 := hS.fi (frI.rf (F := F)) hf3
    have e10 : lgD0 C D l 10 1 = D 10 1 := by rw [← e3]; simp (disch := omega) only [up_ne]
    have e100 : lgD0 C D l 10 0 = D 10 0 := by rw [← e3]; simp (disch := omega) only [up_ne]
    have e0 : lgD0 C D l 0 l = D 0 l := by rw [← e3]; simp (disch := omega) only [up_ne]
    have e8 : lgD0 C D l 8 l = D 8 l + 1 := by rw [← e3]; simp (disch := omega) only [up_ne, up_eq]
    have e2 : up (up (up (up E (d + 13) (gah C D l) (-2)) (d + 2 + 1) l v) (d + 2 + 8) l (D 8 l + 1)) (d + 2 + 3) l 1 (d + 2 + 2) l = D 2 l := by simp (disch := omega) only [up_ne]; exact r2
    have hl3 : ldV C (lgD0 C D l) l := by unfold ldV; rw [e0, e8]; exact ⟨hl.1, hl.2.1, by omega⟩
    have o13 : up (up (up (up E (d + 13) (gah C D l) (-2)) (d + 2 + 1) l v) (d + 2 + 8) l (D 8 l + 1)) (d + 2 + 3) l 1 (d + 13) (gah C D l) = -2 := by simp (disch := omega) only [up_ne, up_eq]
    have o13b : ∀ g : Int, g ≠ gah C D l → up (up (up (up E (d + 13) (gah C D l) (-2)) (d + 2 + 1) l v) (d + 2 + 8) l (D 8 l + 1)) (d + 2 + 3) l 1 (d + 13) g = E (d + 13) g := fun g hg => by simp (disch := omega) only [up_ne]
    have o12 : ∀ c : Int, up (up (up (up E (d + 13) (gah C D l) (-2)) (d + 2 + 1) l v) (d + 2 + 8) l (D 8 l + 1)) (d + 2 + 3) l 1 (d + 12) c = E (d + 12) c := fun g => by simp (disch := omega) only [up_ne]
    have hf14 : frI (d + 2) (d + 14) E (up (up (up (up E (d + 13) (gah C D l) (-2)) (d + 2 + 1) l v) (d + 2 + 8) l (D 8 l + 1)) (d + 2 + 3) l 1) := fun b j z => by simp (disch := omega) only [up_ne]
    simp (disch := omega) only [ub_X2_leaveGate_111, ub_X2_leaveGate_58, ue_X2_leaveGate, t_X2_leaveGate, zLg, zRf, zFq, zEl, zNz, zUf, zUe, zUr, zCe, zSn, gd_0, gd_1, gd_2, gd_3, gd_4, gd_5, gd_6, gd_7, gd_8, gd_9, gd_10, gd_11, gd_12, gd_13, gd_14, gd_15, gd_16, gd_17, gd_18, gd_19, se_0, se_1, se_2, se_3, se_4, se_5, se_6, se_7, se_8, se_9, se_10, se_11, se_12, se_13, se_14, se_15, se_16, se_17, se_18, se_19, e_const, e_load, e_store, e_iinc, e_dup, e_dup2, e_pop, e_iadd, e_isub, e_imul, e_ladd, e_lsub, e_lmul, e_iaddw, e_isubw, e_imulw, e_laddw, e_lsubw, e_lmulw, e_iand, e_ior, e_ishl, e_ishr, e_iushr, e_lcmp, e_imax, e_imin, e_idiv, e_irem, e_ldiv, e_lrem, e_i2l, e_i2b, e_l2i, e_i2c, e_getF, e_getR, e_putF, e_putR, e_putz, e_ald, e_aldR, e_ast, e_astb, e_astz, e_asta, e_len, e_acopy, e_new, e_newa, e_mna, e_this, e_room, e_call0, e_callv0, e_call1, e_callv1, e_inv1, e_invv1, e_call2, e_callv2, e_inv2, e_invv2, e_call3, e_callv3, e_inv3, e_invv3, e_call4, e_callv4, e_inv4, e_invv4, e_call5, e_callv5, e_inv5, e_invv5, e_call6, e_callv6, e_inv6, e_invv6, e_call7, e_callv7, e_inv7, e_invv7, e_call8, e_callv8, e_inv8, e_invv8, e_ret, e_retz, e_retc, e_retb, e_retv, e_skip, e_sco, e_tlen, e_tat, e_iz_eq0, e_iz_eq1, e_iz_ne0, e_iz_ne1, add0, sc_d, sc_t, inI_e, inL_e, up_eq, true_or, or_true, or_false, false_or, and_true, true_and, not_false_eq_true, Int.reduceAdd, Int.reduceSub, Int.reduceMul, Int.reduceNeg, up_ne, r8, dt_2 hT, dt_4 hT, dt_l1 hT, dt_l13 hT, dt_r hT, dt_lr hT]
    generalize up (up (up (up E (d + 13) (gah C D l) (-2)) (d + 2 + 1) l v) (d + 2 + 8) l (D 8 l + 1)) (d + 2 + 3) l 1 = E3 at *
    have skip : ¬ (gah C (lgD0 C D l) l = -1 ∧ D 2 l = plah C (lgD0 C D l) l) → Q 0 (L, R, F, E3, N) := fun z => hQ E3 (by unfold lgD; rw [if_neg z]; exact hR3) hf14 o13 o13b o12
    repeat' first
      | exact absurd hc (by decide)
      | with_reducible refine sX_gateAhead hS3 hR3 hl3 ?_ h0 ?_ ?_
      | with_reducible refine sX_placeAhead hS3 hR3 hl3 ?_ h0 ?_ ?_
      | simp (disch := omega) only [ub_X2_leaveGate_111, ub_X2_leaveGate_58, ue_X2_leaveGate, t_X2_leaveGate, zLg, zRf, zFq, zEl, zNz, zUf, zUe, zUr, zCe, zSn, gd_0, gd_1, gd_2, gd_3, gd_4, gd_5, gd_6, gd_7, gd_8, gd_9, gd_10, gd_11, gd_12, gd_13, gd_14, gd_15, gd_16, gd_17, gd_18, gd_19, se_0, se_1, se_2, se_3, se_4, se_5, se_6, se_7, se_8, se_9, se_10, se_11, se_12, se_13, se_14, se_15, se_16, se_17, se_18, se_19, e_const, e_load, e_store, e_iinc, e_dup, e_dup2, e_pop, e_iadd, e_isub, e_imul, e_ladd, e_lsub, e_lmul, e_iaddw, e_isubw, e_imulw, e_laddw, e_lsubw, e_lmulw, e_iand, e_ior, e_ishl, e_ishr, e_iushr, e_lcmp, e_imax, e_imin, e_idiv, e_irem, e_ldiv, e_lrem, e_i2l, e_i2b, e_l2i, e_i2c, e_getF, e_getR, e_putF, e_putR, e_putz, e_ald, e_aldR, e_ast, e_astb, e_astz, e_asta, e_len, e_acopy, e_new, e_newa, e_mna, e_this, e_room, e_call0, e_callv0, e_call1, e_callv1, e_inv1, e_invv1, e_call2, e_callv2, e_inv2, e_invv2, e_call3, e_callv3, e_inv3, e_invv3, e_call4, e_callv4, e_inv4, e_invv4, e_call5, e_callv5, e_inv5, e_invv5, e_call6, e_callv6, e_inv6, e_invv6, e_call7, e_callv7, e_inv7, e_invv7, e_call8, e_callv8, e_inv8, e_invv8, e_ret, e_retz, e_retc, e_retb, e_retv, e_skip, e_sco, e_tlen, e_tat, e_iz_eq0, e_iz_eq1, e_iz_ne0, e_iz_ne1, add0, sc_d, sc_t, inI_e, inL_e, up_eq, true_or, or_true, or_false, false_or, and_true, true_and, not_false_eq_true, Int.reduceAdd, Int.reduceSub, Int.reduceMul, Int.reduceNeg, e2, dt_2 hT, dt_l1 hT, dt_r hT, dt_lr hT]
      | with_reducible first | refine izl_lt (fun hc => ?_) (fun hc => ?_) | refine izl_ge (fun hc => ?_) (fun hc => ?_) | refine izl_eq (fun hc => ?_) (fun hc => ?_) | refine ic_ge (fun hc => ?_) (fun hc => ?_) | refine ic_lt (fun hc => ?_) (fun hc => ?_) | refine ic_ne (fun hc => ?_) (fun hc => ?_) | refine ic_eq (fun hc => ?_) (fun hc => ?_) | refine ic_le (fun hc => ?_) (fun hc => ?_) | refine ic_gt (fun hc => ?_) (fun hc => ?_) | refine iz_eq (fun hc => ?_) (fun hc => ?_) | refine iz_ne (fun hc => ?_) (fun hc => ?_) | refine iz_lt (fun hc => ?_) (fun hc => ?_) | refine iz_ge (fun hc => ?_) (fun hc => ?_) | refine iz_gt (fun hc => ?_) (fun hc => ?_) | refine iz_le (fun hc => ?_) (fun hc => ?_) | refine iz_nu (fun hc => ?_) (fun hc => ?_) | refine iz_nn (fun hc => ?_) (fun hc => ?_)
      | omega
      | (exfalso; omega)
    · exact skip fun z => hc z.1
    · exact skip fun z => hc z.2
    · refine sX_arrive hS3 hR3 (by rw [e100]; exact hF) hl3 (by omega) h0 (by omega) fun E' q1 q2 => ?_
      refine hQ E' ?_ (hf14.tr (q2.mono (by omega) (by omega))) (by rw [q2 _ _ (by omega)]; exact o13) (fun g hg => by rw [q2 _ _ (by omega)]; exact o13b g hg) (fun c => by rw [q2 _ _ (by omega)]; exact o12 c)
      unfold lgD
      rw [if_pos ⟨by omega, by omega⟩]
      exact q1
  repeat' first
    | exact absurd hc (by decide)
    | with_reducible refine sX_gateAhead hS hR hl hn h0 h1 ?_
    | simp (disch := omega) only [t_X2_leaveGate, ue_X2_leaveGate, zLg, zRf, zFq, zEl, zNz, zUf, zUe, zUr, zCe, zSn, gd_0, gd_1, gd_2, gd_3, gd_4, gd_5, gd_6, gd_7, gd_8, gd_9, gd_10, gd_11, gd_12, gd_13, gd_14, gd_15, gd_16, gd_17, gd_18, gd_19, se_0, se_1, se_2, se_3, se_4, se_5, se_6, se_7, se_8, se_9, se_10, se_11, se_12, se_13, se_14, se_15, se_16, se_17, se_18, se_19, e_const, e_load, e_store, e_iinc, e_dup, e_dup2, e_pop, e_iadd, e_isub, e_imul, e_ladd, e_lsub, e_lmul, e_iaddw, e_isubw, e_imulw, e_laddw, e_lsubw, e_lmulw, e_iand, e_ior, e_ishl, e_ishr, e_iushr, e_lcmp, e_imax, e_imin, e_idiv, e_irem, e_ldiv, e_lrem, e_i2l, e_i2b, e_l2i, e_i2c, e_getF, e_getR, e_putF, e_putR, e_putz, e_ald, e_aldR, e_ast, e_astb, e_astz, e_asta, e_len, e_acopy, e_new, e_newa, e_mna, e_this, e_room, e_call0, e_callv0, e_call1, e_callv1, e_inv1, e_invv1, e_call2, e_callv2, e_inv2, e_invv2, e_call3, e_callv3, e_inv3, e_invv3, e_call4, e_callv4, e_inv4, e_invv4, e_call5, e_callv5, e_inv5, e_invv5, e_call6, e_callv6, e_inv6, e_invv6, e_call7, e_callv7, e_inv7, e_invv7, e_call8, e_callv8, e_inv8, e_invv8, e_ret, e_retz, e_retc, e_retb, e_retv, e_skip, e_sco, e_tlen, e_tat, e_iz_eq0, e_iz_eq1, e_iz_ne0, e_iz_ne1, add0, sc_d, sc_t, inI_e, inL_e, up_eq, true_or, or_true, or_false, false_or, and_true, true_and, not_false_eq_true, Int.reduceAdd, Int.reduceSub, Int.reduceMul, Int.reduceNeg, up_ne, r1, mc, ds_8 hS, dt_2 hT, dt_4 hT, dt_l1 hT, dt_l13 hT, dt_r hT, dt_lr hT, ct_6 hT2, ct_l2 hT2, ct_gr hT2, ct_gl hT2]
    | with_reducible first | refine izl_lt (fun hc => ?_) (fun hc => ?_) | refine izl_ge (fun hc => ?_) (fun hc => ?_) | refine izl_eq (fun hc => ?_) (fun hc => ?_) | refine ic_ge (fun hc => ?_) (fun hc => ?_) | refine ic_lt (fun hc => ?_) (fun hc => ?_) | refine ic_ne (fun hc => ?_) (fun hc => ?_) | refine ic_eq (fun hc => ?_) (fun hc => ?_) | refine ic_le (fun hc => ?_) (fun hc => ?_) | refine ic_gt (fun hc => ?_) (fun hc => ?_) | refine iz_eq (fun hc => ?_) (fun hc => ?_) | refine iz_ne (fun hc => ?_) (fun hc => ?_) | refine iz_lt (fun hc => ?_) (fun hc => ?_) | refine iz_ge (fun hc => ?_) (fun hc => ?_) | refine iz_gt (fun hc => ?_) (fun hc => ?_) | refine iz_le (fun hc => ?_) (fun hc => ?_) | refine iz_nu (fun hc => ?_) (fun hc => ?_) | refine iz_nn (fun hc => ?_) (fun hc => ?_)
    | omega
    | (exfalso; omega)
  · exact fin _ (by rw [if_neg hc])
  · exact fin _ (by rw [if_pos hc])
end DAYX


/-! ===== a new day: abstract, the class's ===== -/
/-- what a new load says -/
def lrw (C : Cy) (o w : Int) : Int := if w = 0 then o else if w = 1 then C 5 o 1 else if w = 2 then C 5 o 2 else if w = 6 ∨ w = 7 then -2 else 0
def adD (C : Cy) (D : Int → Int → Int) (o : Int) : Int → Int → Int := fun w j => if w = 10 ∧ j = 1 then D 10 1 + 1 else if 0 ≤ w ∧ w < 10 ∧ j = D 10 1 then lrw C o w else D w j
def adN (C : Cy) (D : Int → Int → Int) (o : Int) : Nat → Int → Int → Int
  | 0 => D
  | n + 1 => adD C (adN C D o n) o
noncomputable def dwN (C : Cy) : Nat → Int → Int → Int
  | 0 => fun _ _ => 0
  | o + 1 => if bO C o 0 = 1 then adN C (dwN C o) o (thO C o 4).toNat else dwN C o
noncomputable def dwD (C : Cy) : Int → Int → Int := dwN C (C 0 4 0).toNat
theorem adN_s {C : Cy} {D : Int → Int → Int} {o i : Int} (h : 0 ≤ i) : adN C D o (i + 1).toNat = adD C (adN C D o i.toNat) o := by
  have e : (i + 1).toNat = i.toNat + 1 := by omega
  rw [e]
  rfl
theorem dwN_s {C : Cy} {i : Int} (h : 0 ≤ i) : dwN C (i + 1).toNat = if bO C i 0 = 1 then adN C (dwN C i.toNat) i (thO C i 4).toNat else dwN C i.toNat := by
  have e : (i + 1).toNat = i.toNat + 1 := by omega
  rw [e]
  show (if bO C (i.toNat : Int) 0 = 1 then adN C (dwN C i.toNat) (i.toNat : Int) (thO C (i.toNat : Int) 4).toNat else dwN C i.toNat) = _
  rw [Int.toNat_of_nonneg h]
theorem bO_4 (C : Cy) (o : Int) : bO C o 4 = thO C o 4 := by
  have b1 : bO C o 1 = bI (cutB C (C 5 o 0) (vwP C (C 5 o 0) (C 5 o 1) (C 5 o 2) (C 5 o 3) (C 5 o 4)) (vcP C (C 5 o 0) (C 5 o 1) (C 5 o 2) (C 5 o 3) (C 5 o 4))) := rfl
  have b4 : bO C o 4 = if bI (cutB C (C 5 o 0) (vwP C (C 5 o 0) (C 5 o 1) (C 5 o 2) (C 5 o 3) (C 5 o 4)) (vcP C (C 5 o 0) (C 5 o 1) (C 5 o 2) (C 5 o 3) (C 5 o 4))) = 1 then pn C (C 5 o 0) else 1 := rfl
  rw [b4, ← b1]
  unfold thO
  split <;> rfl
/-- what a new day is -/
def dI (C : Cy) (k : Int) (D : Int → Int → Int) : Prop := D 10 0 = 0 ∧ (0 ≤ D 10 1 ∧ D 10 1 ≤ k) ∧ (∀ g : Int, D 11 g = 0 ∧ D 12 g = 0) ∧ ∀ l : Int, 0 ≤ l → l < D 10 1 → (0 ≤ D 0 l ∧ D 0 l < C 0 4 0) ∧ bO C (D 0 l) 0 = 1 ∧ ∀ w : Int, 1 ≤ w → w < 10 → D w l = lrw C (D 0 l) w
theorem ad_10 {C : Cy} {D : Int → Int → Int} {o : Int} : adD C D o 10 1 = D 10 1 + 1 := rfl
theorem ad_l {C : Cy} {D : Int → Int → Int} {o w l : Int} (h0 : 0 ≤ w) (h1 : w < 10) (hl : l = D 10 1) : adD C D o w l = lrw C o w := by
  unfold adD
  rw [if_neg (by omega), if_pos (by omega)]
theorem ad_ne {C : Cy} {D : Int → Int → Int} {o w l : Int} (h : w < 10 ∧ l ≠ D 10 1 ∨ 10 < w ∨ w = 10 ∧ l ≠ 1) : adD C D o w l = D w l := by
  unfold adD
  rw [if_neg (by omega), if_neg (by omega)]
theorem adD_I {C : Cy} {k o : Int} {D : Int → Int → Int} (h : dI C k D) (h0 : 0 ≤ o) (h1 : o < C 0 4 0) (hf : bO C o 0 = 1) : dI C (k + 1) (adD C D o) := by
  obtain ⟨a, b, c, e⟩ := h
  refine ⟨(ad_ne (by omega)).trans a, by rw [ad_10]; omega, fun g => ?_, fun l x y => ?_⟩
  · rw [ad_ne (by omega), ad_ne (by omega)]; exact c g
  · rw [ad_10] at y
    by_cases z : l = D 10 1
    · have e0 : adD C D o 0 l = o := ad_l (by omega) (by omega) z
      rw [e0]
      exact ⟨⟨h0, h1⟩, hf, fun w u v => ad_l (by omega) v z⟩
    · have e0 : adD C D o 0 l = D 0 l := ad_ne (by omega)
      rw [e0]
      obtain ⟨q1, q2, q3⟩ := e l x (by omega)
      exact ⟨q1, q2, fun w u v => (ad_ne (by omega)).trans (q3 w u v)⟩
theorem adN_I {C : Cy} {k o : Int} {D : Int → Int → Int} (h : dI C k D) (h0 : 0 ≤ o) (h1 : o < C 0 4 0) (hf : bO C o 0 = 1) : ∀ n : Nat, dI C (k + n) (adN C D o n) := by
  intro n
  induction n with
  | zero =>
    have e : k + ((0 : Nat) : Int) = k := by omega
    rw [e]
    exact h
  | succ n ih =>
    have := adD_I ih h0 h1 hf
    have e : k + ((n + 1 : Nat) : Int) = k + n + 1 := by omega
    rw [e]
    exact this
theorem dI.mono {C : Cy} {k k' : Int} {D : Int → Int → Int} (h : dI C k D) (hk : k ≤ k') : dI C k' D := ⟨h.1, by have := h.2.1; omega, h.2.2⟩
theorem dwN_I {C : Cy} (hW : ctW C) : ∀ n : Nat, (n : Int) ≤ C 0 4 0 → dI C (9 * n) (dwN C n) := by
  intro n
  induction n with
  | zero => intro _; exact ⟨rfl, ⟨Int.le_refl _, by have : (0 : Int) = dwN C 0 10 1 := rfl; omega⟩, fun _ => ⟨rfl, rfl⟩, fun l x y => by exfalso; have : (0 : Int) = dwN C 0 10 1 := rfl; omega⟩
  | succ n ih =>
    intro h
    have ih := ih (by omega)
    have th := tw_4 (thO_W hW (o := (n : Int)) (by omega) (by omega))
    unfold dwN
    split
    · next hf =>
      have := adN_I ih (o := (n : Int)) (by omega) (by omega) hf (thO C n 4).toNat
      exact this.mono (by omega)
    · exact ih.mono (by omega)
theorem dI.w {C : Cy} (hW : ctW C) {k : Int} {D : Int → Int → Int} (h : dI C k D) (hk : k ≤ 72) : dWf C D := by
  obtain ⟨a, b, c, e⟩ := h
  have key : ∀ l : Int, 0 ≤ l → l < D 10 1 → D 3 l = 0 ∧ D 4 l = 0 ∧ D 6 l = -2 ∧ D 8 l = 0 ∧ D 1 l = C 5 (D 0 l) 1 ∧ D 2 l = C 5 (D 0 l) 2 := fun l x y => by
    obtain ⟨q1, q2, q3⟩ := e l x y
    exact ⟨q3 3 (by omega) (by omega), q3 4 (by omega) (by omega), q3 6 (by omega) (by omega), q3 8 (by omega) (by omega), q3 1 (by omega) (by omega), q3 2 (by omega) (by omega)⟩
  refine ⟨by omega, by omega, fun l x y => ?_, fun l l' x y u v z => ?_⟩
  · obtain ⟨q1, q2, -⟩ := e l x y
    obtain ⟨k3, k4, k6, k8, k1, k2⟩ := key l x y
    have n5 := bO_5 hW q1.1 q1.2
    have o1 := cw_o1 hW _ q1.1 q1.2
    have o2 := cw_o2 hW _ q1.1 q1.2
    exact ⟨q1, q2, by omega, by omega, by omega, by omega, by omega, by omega, by omega⟩
  · obtain ⟨k3, k4, k6, -⟩ := key l x y
    exact ⟨fun _ => k6, fun w => by omega⟩
theorem dI.k {C : Cy} {k K : Int} {D : Int → Int → Int} (h : dI C k D) (hK : 0 ≤ K) : dK D K := by
  obtain ⟨a, b, c, e⟩ := h
  refine ⟨fun g _ _ => by have := c g; omega, fun l x y => ?_⟩
  have : D 5 l = 0 := (e l x y).2.2 5 (by omega) (by omega)
  omega
theorem dwD_ok {C : Cy} (hW : ctW C) : dWf C (dwD C) ∧ dK (dwD C) (2000 * dwD C 10 0) ∧ dwD C 10 0 = 0 := by
  have b4 := cw_4 hW
  have h := dwN_I hW (C 0 4 0).toNat (by omega)
  have h' : dI C (9 * ((C 0 4 0).toNat : Int)) (dwD C) := h
  have e0 : dwD C 10 0 = 0 := h'.1
  exact ⟨h'.w hW (by omega), h'.k (by omega), e0⟩
section DAWN
variable {L : Int → Int} {R F E : Int → Int → Int} {N : Nat} {Q : xQ} {d a y l g o : Int} {C : Cy} {D : Int → Int → Int}
theorem sX_addLoad (hS : dyS d a y C L R F E) (hR : dR d D E) (h1 : F d 1 = D 10 1) (hn0 : 0 ≤ D 10 1) (hn : D 10 1 < 72) (o0 : 0 ≤ o) (o1 : o < C 0 4 0) (hQ : ∀ E' : Int → Int → Int, dR d (adD C D o) E' → frI (d + 2) (d + 12) E E' → Q 0 (L, R, up F d 1 (D 10 1 + 1), E', N)) : T_X2_addLoad [d, o] (L, R, F, E, N) Q := by
  have hT := ds_t hS
  have hT2 := ds_ct hS
  have hM := ds_cm hS
  have hW := ds_cw hS
  have pd := dt_p hT
  have pa := ct_p hT2
  have b4 := cw_4 hW
  have hy := ds_y hS
  simp (disch := omega) only [ue_X2_addLoad, t_X2_addLoad, zLg, zRf, zFq, zEl, zNz, zUf, zUe, zUr, zCe, zSn, gd_0, gd_1, gd_2, gd_3, gd_4, gd_5, gd_6, gd_7, gd_8, gd_9, gd_10, gd_11, gd_12, gd_13, gd_14, gd_15, gd_16, gd_17, gd_18, gd_19, se_0, se_1, se_2, se_3, se_4, se_5, se_6, se_7, se_8, se_9, se_10, se_11, se_12, se_13, se_14, se_15, se_16, se_17, se_18, se_19, e_const, e_load, e_store, e_iinc, e_dup, e_dup2, e_pop, e_iadd, e_isub, e_imul, e_ladd, e_lsub, e_lmul, e_iaddw, e_isubw, e_imulw, e_laddw, e_lsubw, e_lmulw, e_iand, e_ior, e_ishl, e_ishr, e_iushr, e_lcmp, e_imax, e_imin, e_idiv, e_irem, e_ldiv, e_lrem, e_i2l, e_i2b, e_l2i, e_i2c, e_getF, e_getR, e_putF, e_putR, e_putz, e_ald, e_aldR, e_ast, e_astb, e_astz, e_asta, e_len, e_acopy, e_new, e_newa, e_mna, e_this, e_room, e_call0, e_callv0, e_call1, e_callv1, e_inv1, e_invv1, e_call2, e_callv2, e_inv2, e_invv2, e_call3, e_callv3, e_inv3, e_invv3, e_call4, e_callv4, e_inv4, e_invv4, e_call5, e_callv5, e_inv5, e_invv5, e_call6, e_callv6, e_inv6, e_invv6, e_call7, e_callv7, e_inv7, e_invv7, e_call8, e_callv8, e_inv8, e_invv8, e_ret, e_retz, e_retc, e_retb, e_retv, e_skip, e_sco, e_tlen, e_tat, e_iz_eq0, e_iz_eq1, e_iz_ne0, e_iz_ne1, add0, sc_d, sc_t, inI_e, inL_e, up_eq, true_or, or_true, or_false, false_or, and_true, true_and, not_false_eq_true, Int.reduceAdd, Int.reduceSub, Int.reduceMul, Int.reduceNeg, up_ne, h1, ds_8 hS, dt_2 hT, dt_l1 hT, dt_r hT, dt_lr hT, ct_9 hT2, ct_l30 hT2, ct_or hT2, ct_ol hT2, cm_o hM]
  refine hQ _ (fun w l' u v x z => ?_) (fun b j z => by simp (disch := omega) only [up_ne])
  rw [ad_10] at z
  by_cases zl : l' = D 10 1
  · rw [ad_l u v zl, zl]
    by_cases w0 : w = 0
    · subst w0; simp (disch := omega) only [up_ne, up_eq, Int.add_zero]; rfl
    by_cases w1 : w = 1
    · subst w1; simp (disch := omega) only [up_ne, up_eq, Int.add_zero]; rfl
    by_cases w2 : w = 2
    · subst w2; simp (disch := omega) only [up_ne, up_eq, Int.add_zero]; rfl
    by_cases w3 : w = 3
    · subst w3; simp (disch := omega) only [up_ne, up_eq, Int.add_zero]; rfl
    by_cases w4 : w = 4
    · subst w4; simp (disch := omega) only [up_ne, up_eq, Int.add_zero]; rfl
    by_cases w5 : w = 5
    · subst w5; simp (disch := omega) only [up_ne, up_eq, Int.add_zero]; rfl
    by_cases w6 : w = 6
    · subst w6; simp (disch := omega) only [up_ne, up_eq, Int.add_zero]; rfl
    by_cases w7 : w = 7
    · subst w7; simp (disch := omega) only [up_ne, up_eq, Int.add_zero]; rfl
    by_cases w8 : w = 8
    · subst w8; simp (disch := omega) only [up_ne, up_eq, Int.add_zero]; rfl
    have w9 : w = 9 := by omega
    subst w9; simp (disch := omega) only [up_ne, up_eq, Int.add_zero]; rfl
  · rw [ad_ne (by omega)]
    simp (disch := omega) only [up_ne]
    exact hR w l' u v x (by omega)
theorem sX_begin (hS : dyS d a y C L (up (up R d 8 a) d 9 y) F E) (hQ : ∀ F' E' : Int → Int → Int, dyX d C (dwD C) F' E' → frI d (d + 17) F F' → frI d (d + 17) E E' → Q 0 (L, up (up R d 8 a) d 9 y, F', E', N)) : T_X2_begin [d, a, y] (L, R, F, E, N) Q := by
  have hT := ds_t hS
  have hW := ds_cw hS
  have pd := dt_p hT
  have pa := ct_p (ds_ct hS)
  have b4 := cw_4 hW
  have hy := ds_y hS
  have l12 := dt_l12 hT
  have l13 := dt_l13 hT
  have l14 := dt_l14 hT
  have l15 := dt_l15 hT
  have g3 := dt_3 hT
  have g4 := dt_4 hT
  have g5 := dt_5 hT
  have g6 := dt_6 hT
  simp (disch := omega) only [t_X2_begin, ue_X2_begin, zLg, zRf, zFq, zEl, zNz, zUf, zUe, zUr, zCe, zSn, gd_0, gd_1, gd_2, gd_3, gd_4, gd_5, gd_6, gd_7, gd_8, gd_9, gd_10, gd_11, gd_12, gd_13, gd_14, gd_15, gd_16, gd_17, gd_18, gd_19, se_0, se_1, se_2, se_3, se_4, se_5, se_6, se_7, se_8, se_9, se_10, se_11, se_12, se_13, se_14, se_15, se_16, se_17, se_18, se_19, e_const, e_load, e_store, e_iinc, e_dup, e_dup2, e_pop, e_iadd, e_isub, e_imul, e_ladd, e_lsub, e_lmul, e_iaddw, e_isubw, e_imulw, e_laddw, e_lsubw, e_lmulw, e_iand, e_ior, e_ishl, e_ishr, e_iushr, e_lcmp, e_imax, e_imin, e_idiv, e_irem, e_ldiv, e_lrem, e_i2l, e_i2b, e_l2i, e_i2c, e_getF, e_getR, e_putF, e_putR, e_putz, e_ald, e_aldR, e_ast, e_astb, e_astz, e_asta, e_len, e_acopy, e_new, e_newa, e_mna, e_this, e_room, e_call0, e_callv0, e_call1, e_callv1, e_inv1, e_invv1, e_call2, e_callv2, e_inv2, e_invv2, e_call3, e_callv3, e_inv3, e_invv3, e_call4, e_callv4, e_inv4, e_invv4, e_call5, e_callv5, e_inv5, e_invv5, e_call6, e_callv6, e_inv6, e_invv6, e_call7, e_callv7, e_inv7, e_invv7, e_call8, e_callv8, e_inv8, e_invv8, e_ret, e_retz, e_retc, e_retb, e_retv, e_skip, e_sco, e_tlen, e_tat, e_iz_eq0, e_iz_eq1, e_iz_ne0, e_iz_ne1, add0, sc_d, sc_t, inI_e, inL_e, up_eq, true_or, or_true, or_false, false_or, and_true, true_and, not_false_eq_true, Int.reduceAdd, Int.reduceSub, Int.reduceMul, Int.reduceNeg, g3]
  generalize up (up R d 8 a) d 9 y = R' at *
  refine sX_fill (by omega) (by omega) (by omega) fun E1 f1 p1 => ?_
  simp (disch := omega) only [zLg, zRf, zFq, zEl, zNz, zUf, zUe, zUr, zCe, zSn, gd_0, gd_1, gd_2, gd_3, gd_4, gd_5, gd_6, gd_7, gd_8, gd_9, gd_10, gd_11, gd_12, gd_13, gd_14, gd_15, gd_16, gd_17, gd_18, gd_19, se_0, se_1, se_2, se_3, se_4, se_5, se_6, se_7, se_8, se_9, se_10, se_11, se_12, se_13, se_14, se_15, se_16, se_17, se_18, se_19, e_const, e_load, e_store, e_iinc, e_dup, e_dup2, e_pop, e_iadd, e_isub, e_imul, e_ladd, e_lsub, e_lmul, e_iaddw, e_isubw, e_imulw, e_laddw, e_lsubw, e_lmulw, e_iand, e_ior, e_ishl, e_ishr, e_iushr, e_lcmp, e_imax, e_imin, e_idiv, e_irem, e_ldiv, e_lrem, e_i2l, e_i2b, e_l2i, e_i2c, e_getF, e_getR, e_putF, e_putR, e_putz, e_ald, e_aldR, e_ast, e_astb, e_astz, e_asta, e_len, e_acopy, e_new, e_newa, e_mna, e_this, e_room, e_call0, e_callv0, e_call1, e_callv1, e_inv1, e_invv1, e_call2, e_callv2, e_inv2, e_invv2, e_call3, e_callv3, e_inv3, e_invv3, e_call4, e_callv4, e_inv4, e_invv4, e_call5, e_callv5, e_inv5, e_invv5, e_call6, e_callv6, e_inv6, e_invv6, e_call7, e_callv7, e_inv7, e_invv7, e_call8, e_callv8, e_inv8, e_invv8, e_ret, e_retz, e_retc, e_retb, e_retv, e_skip, e_sco, e_tlen, e_tat, e_iz_eq0, e_iz_eq1, e_iz_ne0, e_iz_ne1, add0, sc_d, sc_t, inI_e, inL_e, up_eq, true_or, or_true, or_false, false_or, and_true, true_and, not_false_eq_true, Int.reduceAdd, Int.reduceSub, Int.reduceMul, Int.reduceNeg, g4]
  refine sX_fill (by omega) (by omega) (by omega) fun E2 f2 p2 => ?_
  simp (disch := omega) only [zLg, zRf, zFq, zEl, zNz, zUf, zUe, zUr, zCe, zSn, gd_0, gd_1, gd_2, gd_3, gd_4, gd_5, gd_6, gd_7, gd_8, gd_9, gd_10, gd_11, gd_12, gd_13, gd_14, gd_15, gd_16, gd_17, gd_18, gd_19, se_0, se_1, se_2, se_3, se_4, se_5, se_6, se_7, se_8, se_9, se_10, se_11, se_12, se_13, se_14, se_15, se_16, se_17, se_18, se_19, e_const, e_load, e_store, e_iinc, e_dup, e_dup2, e_pop, e_iadd, e_isub, e_imul, e_ladd, e_lsub, e_lmul, e_iaddw, e_isubw, e_imulw, e_laddw, e_lsubw, e_lmulw, e_iand, e_ior, e_ishl, e_ishr, e_iushr, e_lcmp, e_imax, e_imin, e_idiv, e_irem, e_ldiv, e_lrem, e_i2l, e_i2b, e_l2i, e_i2c, e_getF, e_getR, e_putF, e_putR, e_putz, e_ald, e_aldR, e_ast, e_astb, e_astz, e_asta, e_len, e_acopy, e_new, e_newa, e_mna, e_this, e_room, e_call0, e_callv0, e_call1, e_callv1, e_inv1, e_invv1, e_call2, e_callv2, e_inv2, e_invv2, e_call3, e_callv3, e_inv3, e_invv3, e_call4, e_callv4, e_inv4, e_invv4, e_call5, e_callv5, e_inv5, e_invv5, e_call6, e_callv6, e_inv6, e_invv6, e_call7, e_callv7, e_inv7, e_invv7, e_call8, e_callv8, e_inv8, e_invv8, e_ret, e_retz, e_retc, e_retb, e_retv, e_skip, e_sco, e_tlen, e_tat, e_iz_eq0, e_iz_eq1, e_iz_ne0, e_iz_ne1, add0, sc_d, sc_t, inI_e, inL_e, up_eq, true_or, or_true, or_false, false_or, and_true, true_and, not_false_eq_true, Int.reduceAdd, Int.reduceSub, Int.reduceMul, Int.reduceNeg, g5]
  refine sX_fill (by omega) (by omega) (by omega) fun E3 f3 p3 => ?_
  simp (disch := omega) only [zLg, zRf, zFq, zEl, zNz, zUf, zUe, zUr, zCe, zSn, gd_0, gd_1, gd_2, gd_3, gd_4, gd_5, gd_6, gd_7, gd_8, gd_9, gd_10, gd_11, gd_12, gd_13, gd_14, gd_15, gd_16, gd_17, gd_18, gd_19, se_0, se_1, se_2, se_3, se_4, se_5, se_6, se_7, se_8, se_9, se_10, se_11, se_12, se_13, se_14, se_15, se_16, se_17, se_18, se_19, e_const, e_load, e_store, e_iinc, e_dup, e_dup2, e_pop, e_iadd, e_isub, e_imul, e_ladd, e_lsub, e_lmul, e_iaddw, e_isubw, e_imulw, e_laddw, e_lsubw, e_lmulw, e_iand, e_ior, e_ishl, e_ishr, e_iushr, e_lcmp, e_imax, e_imin, e_idiv, e_irem, e_ldiv, e_lrem, e_i2l, e_i2b, e_l2i, e_i2c, e_getF, e_getR, e_putF, e_putR, e_putz, e_ald, e_aldR, e_ast, e_astb, e_astz, e_asta, e_len, e_acopy, e_new, e_newa, e_mna, e_this, e_room, e_call0, e_callv0, e_call1, e_callv1, e_inv1, e_invv1, e_call2, e_callv2, e_inv2, e_invv2, e_call3, e_callv3, e_inv3, e_invv3, e_call4, e_callv4, e_inv4, e_invv4, e_call5, e_callv5, e_inv5, e_invv5, e_call6, e_callv6, e_inv6, e_invv6, e_call7, e_callv7, e_inv7, e_invv7, e_call8, e_callv8, e_inv8, e_invv8, e_ret, e_retz, e_retc, e_retb, e_retv, e_skip, e_sco, e_tlen, e_tat, e_iz_eq0, e_iz_eq1, e_iz_ne0, e_iz_ne1, add0, sc_d, sc_t, inI_e, inL_e, up_eq, true_or, or_true, or_false, false_or, and_true, true_and, not_false_eq_true, Int.reduceAdd, Int.reduceSub, Int.reduceMul, Int.reduceNeg, g6]
  refine sX_fill (by omega) (by omega) (by omega) fun E4 f4 p4 => ?_
  try simp (disch := omega) only [zLg, zRf, zFq, zEl, zNz, zUf, zUe, zUr, zCe, zSn, gd_0, gd_1, gd_2, gd_3, gd_4, gd_5, gd_6, gd_7, gd_8, gd_9, gd_10, gd_11, gd_12, gd_13, gd_14, gd_15, gd_16, gd_17, gd_18, gd_19, se_0, se_1, se_2, se_3, se_4, se_5, se_6, se_7, se_8, se_9, se_10, se_11, se_12, se_13, se_14, se_15, se_16, se_17, se_18, se_19, e_const, e_load, e_store, e_iinc, e_dup, e_dup2, e_pop, e_iadd, e_isub, e_imul, e_ladd, e_lsub, e_lmul, e_iaddw, e_isubw, e_imulw, e_laddw, e_lsubw, e_lmulw, e_iand, e_ior, e_ishl, e_ishr, e_iushr, e_lcmp, e_imax, e_imin, e_idiv, e_irem, e_ldiv, e_lrem, e_i2l, e_i2b, e_l2i, e_i2c, e_getF, e_getR, e_putF, e_putR, e_putz, e_ald, e_aldR, e_ast, e_astb, e_astz, e_asta, e_len, e_acopy, e_new, e_newa, e_mna, e_this, e_room, e_call0, e_callv0, e_call1, e_callv1, e_inv1, e_invv1, e_call2, e_callv2, e_inv2, e_invv2, e_call3, e_callv3, e_inv3, e_invv3, e_call4, e_callv4, e_inv4, e_invv4, e_call5, e_callv5, e_inv5, e_invv5, e_call6, e_callv6, e_inv6, e_invv6, e_call7, e_callv7, e_inv7, e_invv7, e_call8, e_callv8, e_inv8, e_invv8, e_ret, e_retz, e_retc, e_retb, e_retv, e_skip, e_sco, e_tlen, e_tat, e_iz_eq0, e_iz_eq1, e_iz_ne0, e_iz_ne1, add0, sc_d, sc_t, inI_e, inL_e, up_eq, true_or, or_true, or_false, false_or, and_true, true_and, not_false_eq_true, Int.reduceAdd, Int.reduceSub, Int.reduceMul, Int.reduceNeg]
  rw [l12] at p1
  rw [l13] at p2
  rw [l14] at p3
  rw [l15] at p4
  have q12 : ∀ j : Int, 0 ≤ j → j < 8 → E4 (d + 12) j = -2 := fun j u v => by rw [f4 _ _ (by omega), f3 _ _ (by omega), f2 _ _ (by omega)]; exact p1 j u v
  have q13 : ∀ j : Int, 0 ≤ j → j < 11 → E4 (d + 13) j = -2 := fun j u v => by rw [f4 _ _ (by omega), f3 _ _ (by omega)]; exact p2 j u v
  have q14 : ∀ j : Int, 0 ≤ j → j < 11 → E4 (d + 14) j = 0 := fun j u v => by rw [f4 _ _ (by omega)]; exact p3 j u v
  have fE : frI d (d + 17) E E4 := fun b j z => by rw [f4 _ _ (by omega), f3 _ _ (by omega), f2 _ _ (by omega), f1 _ _ (by omega)]
  have fF : frI d (d + 17) F (up (up F d 0 0) d 1 0) := (frI.up (by omega) (by omega)).tr (frI.up (by omega) (by omega))
  have eF0 : up (up F d 0 0) d 1 0 d 0 = 0 := by rw [up_ne (by omega), up_eq]
  have eF1 : up (up F d 0 0) d 1 0 d 1 = 0 := up_eq
  generalize up (up F d 0 0) d 1 0 = F4 at *
  unfold L_X2_begin_56
  refine lpw (fun n lo st h c s => ∃ (i x4 x5 : Int) (F' E' : Int → Int → Int), lo = [d, a, y, i, x4, x5] ∧ st = [] ∧ h = (L, R', F', E', N) ∧ 0 ≤ i ∧ i ≤ C 0 4 0 ∧ (n : Int) = C 0 4 0 - i ∧ frI d (d + 17) F F' ∧ frI d (d + 17) E E' ∧ (∀ b j : Int, d + 12 ≤ b → E' b j = E4 b j) ∧ F' d 0 = 0 ∧ F' d 1 = dwN C i.toNat 10 1 ∧ dR d (dwN C i.toNat) E') ?_ (n := (C 0 4 0).toNat) ⟨0, 0, 0, F4, E4, rfl, rfl, rfl, by omega, by omega, by omega, fF, fE, fun _ _ _ => rfl, eF0, eF1, fun w l' u v x z => by exfalso; have : (0 : Int) = dwN C (0 : Int).toNat 10 1 := rfl; omega⟩
  rintro n k hk lo st h c s ⟨i, x4, x5, F', E', rfl, rfl, rfl, hi, hi2, hn1, hf, he, hk4, h00, h11, hR⟩
  have hS' := hS.fi hf he
  have hI := dwN_I hW i.toNat (by omega)
  by_cases hlt : i < C 0 4 0
  · have es := dwN_s (C := C) hi
    obtain ⟨y1, y2⟩ := ds_yr hS i hi (by omega)
    obtain ⟨z1, z2⟩ := ds_w hS' i hi hlt
    have b01 := (bO_01 C i).1
    by_cases hfo : bO C i 0 = 1
    · rw [if_pos hfo] at es
      have z4 := (z2 hfo).2.2.2.1
      rw [bO_4] at z4
      have t4 := tw_4 (thO_W hW hi hlt)
      repeat' first
        | exact absurd hc (by decide)
        | simp (disch := omega) only [ub_X2_begin_92, zLg, zRf, zFq, zEl, zNz, zUf, zUe, zUr, zCe, zSn, gd_0, gd_1, gd_2, gd_3, gd_4, gd_5, gd_6, gd_7, gd_8, gd_9, gd_10, gd_11, gd_12, gd_13, gd_14, gd_15, gd_16, gd_17, gd_18, gd_19, se_0, se_1, se_2, se_3, se_4, se_5, se_6, se_7, se_8, se_9, se_10, se_11, se_12, se_13, se_14, se_15, se_16, se_17, se_18, se_19, e_const, e_load, e_store, e_iinc, e_dup, e_dup2, e_pop, e_iadd, e_isub, e_imul, e_ladd, e_lsub, e_lmul, e_iaddw, e_isubw, e_imulw, e_laddw, e_lsubw, e_lmulw, e_iand, e_ior, e_ishl, e_ishr, e_iushr, e_lcmp, e_imax, e_imin, e_idiv, e_irem, e_ldiv, e_lrem, e_i2l, e_i2b, e_l2i, e_i2c, e_getF, e_getR, e_putF, e_putR, e_putz, e_ald, e_aldR, e_ast, e_astb, e_astz, e_asta, e_len, e_acopy, e_new, e_newa, e_mna, e_this, e_room, e_call0, e_callv0, e_call1, e_callv1, e_inv1, e_invv1, e_call2, e_callv2, e_inv2, e_invv2, e_call3, e_callv3, e_inv3, e_invv3, e_call4, e_callv4, e_inv4, e_invv4, e_call5, e_callv5, e_inv5, e_invv5, e_call6, e_callv6, e_inv6, e_invv6, e_call7, e_callv7, e_inv7, e_invv7, e_call8, e_callv8, e_inv8, e_invv8, e_ret, e_retz, e_retc, e_retb, e_retv, e_skip, e_sco, e_tlen, e_tat, e_iz_eq0, e_iz_eq1, e_iz_ne0, e_iz_ne1, add0, sc_d, sc_t, inI_e, inL_e, up_eq, true_or, or_true, or_false, false_or, and_true, true_and, not_false_eq_true, Int.reduceAdd, Int.reduceSub, Int.reduceMul, Int.reduceNeg, ds_8 hS, ds_9 hS, cm_4 (ds_cm hS'), y1, z1, z4, hy.2.1]
        | with_reducible first | refine izl_lt (fun hc => ?_) (fun hc => ?_) | refine izl_ge (fun hc => ?_) (fun hc => ?_) | refine izl_eq (fun hc => ?_) (fun hc => ?_) | refine ic_ge (fun hc => ?_) (fun hc => ?_) | refine ic_lt (fun hc => ?_) (fun hc => ?_) | refine ic_ne (fun hc => ?_) (fun hc => ?_) | refine ic_eq (fun hc => ?_) (fun hc => ?_) | refine ic_le (fun hc => ?_) (fun hc => ?_) | refine ic_gt (fun hc => ?_) (fun hc => ?_) | refine iz_eq (fun hc => ?_) (fun hc => ?_) | refine iz_ne (fun hc => ?_) (fun hc => ?_) | refine iz_lt (fun hc => ?_) (fun hc => ?_) | refine iz_ge (fun hc => ?_) (fun hc => ?_) | refine iz_gt (fun hc => ?_) (fun hc => ?_) | refine iz_le (fun hc => ?_) (fun hc => ?_) | refine iz_nu (fun hc => ?_) (fun hc => ?_) | refine iz_nn (fun hc => ?_) (fun hc => ?_)
        | omega
        | (exfalso; omega)
      unfold L_X2_begin_97
      generalize dwN C i.toNat = Di at *
      refine lpw (fun n lo st h c s => ∃ (j : Int) (F2 E2 : Int → Int → Int), lo = [d, a, y, i, thO C i 4, j] ∧ st = [] ∧ h = (L, R', F2, E2, N) ∧ 0 ≤ j ∧ j ≤ thO C i 4 ∧ (n : Int) = thO C i 4 - j ∧ frI d (d + 17) F F2 ∧ frI d (d + 17) E E2 ∧ (∀ b j : Int, d + 12 ≤ b → E2 b j = E4 b j) ∧ F2 d 0 = 0 ∧ F2 d 1 = adN C Di i j.toNat 10 1 ∧ dR d (adN C Di i j.toNat) E2) ?_ (n := (thO C i 4).toNat) ⟨0, F', E', rfl, rfl, rfl, by omega, by omega, by omega, hf, he, hk4, h00, h11, hR⟩
      rintro n2 k2 hk2 lo st h c2 s2 ⟨j, F2, E2, rfl, rfl, rfl, hj, hj2, hn2, jf, je, jk4, j00, j11, jR⟩
      have jI := adN_I hI hi hlt hfo j.toNat
      have jb := jI.2.1
      by_cases hjt : j < thO C i 4
      · have ej := adN_s (C := C) (D := Di) (o := i) hj
        generalize adN C Di i j.toNat = Dj at *
        repeat' first
          | exact absurd hc (by decide)
          | simp (disch := omega) only [zLg, zRf, zFq, zEl, zNz, zUf, zUe, zUr, zCe, zSn, gd_0, gd_1, gd_2, gd_3, gd_4, gd_5, gd_6, gd_7, gd_8, gd_9, gd_10, gd_11, gd_12, gd_13, gd_14, gd_15, gd_16, gd_17, gd_18, gd_19, se_0, se_1, se_2, se_3, se_4, se_5, se_6, se_7, se_8, se_9, se_10, se_11, se_12, se_13, se_14, se_15, se_16, se_17, se_18, se_19, e_const, e_load, e_store, e_iinc, e_dup, e_dup2, e_pop, e_iadd, e_isub, e_imul, e_ladd, e_lsub, e_lmul, e_iaddw, e_isubw, e_imulw, e_laddw, e_lsubw, e_lmulw, e_iand, e_ior, e_ishl, e_ishr, e_iushr, e_lcmp, e_imax, e_imin, e_idiv, e_irem, e_ldiv, e_lrem, e_i2l, e_i2b, e_l2i, e_i2c, e_getF, e_getR, e_putF, e_putR, e_putz, e_ald, e_aldR, e_ast, e_astb, e_astz, e_asta, e_len, e_acopy, e_new, e_newa, e_mna, e_this, e_room, e_call0, e_callv0, e_call1, e_callv1, e_inv1, e_invv1, e_call2, e_callv2, e_inv2, e_invv2, e_call3, e_callv3, e_inv3, e_invv3, e_call4, e_callv4, e_inv4, e_invv4, e_call5, e_callv5, e_inv5, e_invv5, e_call6, e_callv6, e_inv6, e_invv6, e_call7, e_callv7, e_inv7, e_invv7, e_call8, e_callv8, e_inv8, e_invv8, e_ret, e_retz, e_retc, e_retb, e_retv, e_skip, e_sco, e_tlen, e_tat, e_iz_eq0, e_iz_eq1, e_iz_ne0, e_iz_ne1, add0, sc_d, sc_t, inI_e, inL_e, up_eq, true_or, or_true, or_false, false_or, and_true, true_and, not_false_eq_true, Int.reduceAdd, Int.reduceSub, Int.reduceMul, Int.reduceNeg, j11]
          | with_reducible first | refine izl_lt (fun hc => ?_) (fun hc => ?_) | refine izl_ge (fun hc => ?_) (fun hc => ?_) | refine izl_eq (fun hc => ?_) (fun hc => ?_) | refine ic_ge (fun hc => ?_) (fun hc => ?_) | refine ic_lt (fun hc => ?_) (fun hc => ?_) | refine ic_ne (fun hc => ?_) (fun hc => ?_) | refine ic_eq (fun hc => ?_) (fun hc => ?_) | refine ic_le (fun hc => ?_) (fun hc => ?_) | refine ic_gt (fun hc => ?_) (fun hc => ?_) | refine iz_eq (fun hc => ?_) (fun hc => ?_) | refine iz_ne (fun hc => ?_) (fun hc => ?_) | refine iz_lt (fun hc => ?_) (fun hc => ?_) | refine iz_ge (fun hc => ?_) (fun hc => ?_) | refine iz_gt (fun hc => ?_) (fun hc => ?_) | refine iz_le (fun hc => ?_) (fun hc => ?_) | refine iz_nu (fun hc => ?_) (fun hc => ?_) | refine iz_nn (fun hc => ?_) (fun hc => ?_)
          | omega
          | (exfalso; omega)
        refine sX_addLoad (hS.fi jf je) jR j11 (by omega) (by omega) hi hlt fun E5 a1 a2 => ?_
        exact hk2 (n2 - 1) _ _ _ _ _ (by omega) ⟨j + 1, up F2 d 1 (Dj 10 1 + 1), E5, rfl, rfl, rfl, by omega, by omega, by omega, jf.tr (frI.up (by omega) (by omega)), je.tr (a2.mono (by omega) (by omega)), fun b q z => (a2 b q (by omega)).trans (jk4 b q z), by rw [up_ne (by omega)]; exact j00, by rw [up_eq, ej, ad_10], by rw [ej]; exact a1⟩
      · have hje : j = thO C i 4 := by omega
        rw [hje] at j11 jR
        rw [← es] at j11 jR
        repeat' first
          | exact absurd hc (by decide)
          | simp (disch := omega) only [ub_X2_begin_124, zLg, zRf, zFq, zEl, zNz, zUf, zUe, zUr, zCe, zSn, gd_0, gd_1, gd_2, gd_3, gd_4, gd_5, gd_6, gd_7, gd_8, gd_9, gd_10, gd_11, gd_12, gd_13, gd_14, gd_15, gd_16, gd_17, gd_18, gd_19, se_0, se_1, se_2, se_3, se_4, se_5, se_6, se_7, se_8, se_9, se_10, se_11, se_12, se_13, se_14, se_15, se_16, se_17, se_18, se_19, e_const, e_load, e_store, e_iinc, e_dup, e_dup2, e_pop, e_iadd, e_isub, e_imul, e_ladd, e_lsub, e_lmul, e_iaddw, e_isubw, e_imulw, e_laddw, e_lsubw, e_lmulw, e_iand, e_ior, e_ishl, e_ishr, e_iushr, e_lcmp, e_imax, e_imin, e_idiv, e_irem, e_ldiv, e_lrem, e_i2l, e_i2b, e_l2i, e_i2c, e_getF, e_getR, e_putF, e_putR, e_putz, e_ald, e_aldR, e_ast, e_astb, e_astz, e_asta, e_len, e_acopy, e_new, e_newa, e_mna, e_this, e_room, e_call0, e_callv0, e_call1, e_callv1, e_inv1, e_invv1, e_call2, e_callv2, e_inv2, e_invv2, e_call3, e_callv3, e_inv3, e_invv3, e_call4, e_callv4, e_inv4, e_invv4, e_call5, e_callv5, e_inv5, e_invv5, e_call6, e_callv6, e_inv6, e_invv6, e_call7, e_callv7, e_inv7, e_invv7, e_call8, e_callv8, e_inv8, e_invv8, e_ret, e_retz, e_retc, e_retb, e_retv, e_skip, e_sco, e_tlen, e_tat, e_iz_eq0, e_iz_eq1, e_iz_ne0, e_iz_ne1, add0, sc_d, sc_t, inI_e, inL_e, up_eq, true_or, or_true, or_false, false_or, and_true, true_and, not_false_eq_true, Int.reduceAdd, Int.reduceSub, Int.reduceMul, Int.reduceNeg]
          | with_reducible first | refine izl_lt (fun hc => ?_) (fun hc => ?_) | refine izl_ge (fun hc => ?_) (fun hc => ?_) | refine izl_eq (fun hc => ?_) (fun hc => ?_) | refine ic_ge (fun hc => ?_) (fun hc => ?_) | refine ic_lt (fun hc => ?_) (fun hc => ?_) | refine ic_ne (fun hc => ?_) (fun hc => ?_) | refine ic_eq (fun hc => ?_) (fun hc => ?_) | refine ic_le (fun hc => ?_) (fun hc => ?_) | refine ic_gt (fun hc => ?_) (fun hc => ?_) | refine iz_eq (fun hc => ?_) (fun hc => ?_) | refine iz_ne (fun hc => ?_) (fun hc => ?_) | refine iz_lt (fun hc => ?_) (fun hc => ?_) | refine iz_ge (fun hc => ?_) (fun hc => ?_) | refine iz_gt (fun hc => ?_) (fun hc => ?_) | refine iz_le (fun hc => ?_) (fun hc => ?_) | refine iz_nu (fun hc => ?_) (fun hc => ?_) | refine iz_nn (fun hc => ?_) (fun hc => ?_)
          | omega
          | (exfalso; omega)
        exact hk (n - 1) _ _ _ _ _ (by omega) ⟨i + 1, _, _, F2, E2, rfl, rfl, rfl, by omega, by omega, by omega, jf, je, jk4, j00, j11, jR⟩
    · rw [if_neg hfo] at es
      rw [← es] at h11 hR
      repeat' first
        | exact absurd hc (by decide)
        | simp (disch := omega) only [ub_X2_begin_92, zLg, zRf, zFq, zEl, zNz, zUf, zUe, zUr, zCe, zSn, gd_0, gd_1, gd_2, gd_3, gd_4, gd_5, gd_6, gd_7, gd_8, gd_9, gd_10, gd_11, gd_12, gd_13, gd_14, gd_15, gd_16, gd_17, gd_18, gd_19, se_0, se_1, se_2, se_3, se_4, se_5, se_6, se_7, se_8, se_9, se_10, se_11, se_12, se_13, se_14, se_15, se_16, se_17, se_18, se_19, e_const, e_load, e_store, e_iinc, e_dup, e_dup2, e_pop, e_iadd, e_isub, e_imul, e_ladd, e_lsub, e_lmul, e_iaddw, e_isubw, e_imulw, e_laddw, e_lsubw, e_lmulw, e_iand, e_ior, e_ishl, e_ishr, e_iushr, e_lcmp, e_imax, e_imin, e_idiv, e_irem, e_ldiv, e_lrem, e_i2l, e_i2b, e_l2i, e_i2c, e_getF, e_getR, e_putF, e_putR, e_putz, e_ald, e_aldR, e_ast, e_astb, e_astz, e_asta, e_len, e_acopy, e_new, e_newa, e_mna, e_this, e_room, e_call0, e_callv0, e_call1, e_callv1, e_inv1, e_invv1, e_call2, e_callv2, e_inv2, e_invv2, e_call3, e_callv3, e_inv3, e_invv3, e_call4, e_callv4, e_inv4, e_invv4, e_call5, e_callv5, e_inv5, e_invv5, e_call6, e_callv6, e_inv6, e_invv6, e_call7, e_callv7, e_inv7, e_invv7, e_call8, e_callv8, e_inv8, e_invv8, e_ret, e_retz, e_retc, e_retb, e_retv, e_skip, e_sco, e_tlen, e_tat, e_iz_eq0, e_iz_eq1, e_iz_ne0, e_iz_ne1, add0, sc_d, sc_t, inI_e, inL_e, up_eq, true_or, or_true, or_false, false_or, and_true, true_and, not_false_eq_true, Int.reduceAdd, Int.reduceSub, Int.reduceMul, Int.reduceNeg, ds_8 hS, ds_9 hS, cm_4 (ds_cm hS'), y1, z1, hy.2.1]
        | with_reducible first | refine izl_lt (fun hc => ?_) (fun hc => ?_) | refine izl_ge (fun hc => ?_) (fun hc => ?_) | refine izl_eq (fun hc => ?_) (fun hc => ?_) | refine ic_ge (fun hc => ?_) (fun hc => ?_) | refine ic_lt (fun hc => ?_) (fun hc => ?_) | refine ic_ne (fun hc => ?_) (fun hc => ?_) | refine ic_eq (fun hc => ?_) (fun hc => ?_) | refine ic_le (fun hc => ?_) (fun hc => ?_) | refine ic_gt (fun hc => ?_) (fun hc => ?_) | refine iz_eq (fun hc => ?_) (fun hc => ?_) | refine iz_ne (fun hc => ?_) (fun hc => ?_) | refine iz_lt (fun hc => ?_) (fun hc => ?_) | refine iz_ge (fun hc => ?_) (fun hc => ?_) | refine iz_gt (fun hc => ?_) (fun hc => ?_) | refine iz_le (fun hc => ?_) (fun hc => ?_) | refine iz_nu (fun hc => ?_) (fun hc => ?_) | refine iz_nn (fun hc => ?_) (fun hc => ?_)
        | omega
        | (exfalso; omega)
      unfold L_X2_begin_97
      refine lpw (fun n lo st h c s => n = 0 ∧ lo = [d, a, y, i, 0, 0] ∧ st = [] ∧ h = (L, R', F', E', N)) ?_ (n := 0) ⟨rfl, rfl, rfl, rfl⟩
      rintro n2 k2 hk2 lo st h c2 s2 ⟨-, rfl, rfl, rfl⟩
      repeat' first
        | exact absurd hc (by decide)
        | simp (disch := omega) only [ub_X2_begin_124, zLg, zRf, zFq, zEl, zNz, zUf, zUe, zUr, zCe, zSn, gd_0, gd_1, gd_2, gd_3, gd_4, gd_5, gd_6, gd_7, gd_8, gd_9, gd_10, gd_11, gd_12, gd_13, gd_14, gd_15, gd_16, gd_17, gd_18, gd_19, se_0, se_1, se_2, se_3, se_4, se_5, se_6, se_7, se_8, se_9, se_10, se_11, se_12, se_13, se_14, se_15, se_16, se_17, se_18, se_19, e_const, e_load, e_store, e_iinc, e_dup, e_dup2, e_pop, e_iadd, e_isub, e_imul, e_ladd, e_lsub, e_lmul, e_iaddw, e_isubw, e_imulw, e_laddw, e_lsubw, e_lmulw, e_iand, e_ior, e_ishl, e_ishr, e_iushr, e_lcmp, e_imax, e_imin, e_idiv, e_irem, e_ldiv, e_lrem, e_i2l, e_i2b, e_l2i, e_i2c, e_getF, e_getR, e_putF, e_putR, e_putz, e_ald, e_aldR, e_ast, e_astb, e_astz, e_asta, e_len, e_acopy, e_new, e_newa, e_mna, e_this, e_room, e_call0, e_callv0, e_call1, e_callv1, e_inv1, e_invv1, e_call2, e_callv2, e_inv2, e_invv2, e_call3, e_callv3, e_inv3, e_invv3, e_call4, e_callv4, e_inv4, e_invv4, e_call5, e_callv5, e_inv5, e_invv5, e_call6, e_callv6, e_inv6, e_invv6, e_call7, e_callv7, e_inv7, e_invv7, e_call8, e_callv8, e_inv8, e_invv8, e_ret, e_retz, e_retc, e_retb, e_retv, e_skip, e_sco, e_tlen, e_tat, e_iz_eq0, e_iz_eq1, e_iz_ne0, e_iz_ne1, add0, sc_d, sc_t, inI_e, inL_e, up_eq, true_or, or_true, or_false, false_or, and_true, true_and, not_false_eq_true, Int.reduceAdd, Int.reduceSub, Int.reduceMul, Int.reduceNeg]
        | with_reducible first | refine izl_lt (fun hc => ?_) (fun hc => ?_) | refine izl_ge (fun hc => ?_) (fun hc => ?_) | refine izl_eq (fun hc => ?_) (fun hc => ?_) | refine ic_ge (fun hc => ?_) (fun hc => ?_) | refine ic_lt (fun hc => ?_) (fun hc => ?_) | refine ic_ne (fun hc => ?_) (fun hc => ?_) | refine ic_eq (fun hc => ?_) (fun hc => ?_) | refine ic_le (fun hc => ?_) (fun hc => ?_) | refine ic_gt (fun hc => ?_) (fun hc => ?_) | refine iz_eq (fun hc => ?_) (fun hc => ?_) | refine iz_ne (fun hc => ?_) (fun hc => ?_) | refine iz_lt (fun hc => ?_) (fun hc => ?_) | refine iz_ge (fun hc => ?_) (fun hc => ?_) | refine iz_gt (fun hc => ?_) (fun hc => ?_) | refine iz_le (fun hc => ?_) (fun hc => ?_) | refine iz_nu (fun hc => ?_) (fun hc => ?_) | refine iz_nn (fun hc => ?_) (fun hc => ?_)
        | omega
        | (exfalso; omega)
      exact hk (n - 1) _ _ _ _ _ (by omega) ⟨i + 1, _, _, F', E', rfl, rfl, rfl, by omega, by omega, by omega, hf, he, hk4, h00, h11, hR⟩
  · have hie : i = C 0 4 0 := by omega
    rw [hie] at h11 hR hI
    repeat' first
      | exact absurd hc (by decide)
      | simp (disch := omega) only [zLg, zRf, zFq, zEl, zNz, zUf, zUe, zUr, zCe, zSn, gd_0, gd_1, gd_2, gd_3, gd_4, gd_5, gd_6, gd_7, gd_8, gd_9, gd_10, gd_11, gd_12, gd_13, gd_14, gd_15, gd_16, gd_17, gd_18, gd_19, se_0, se_1, se_2, se_3, se_4, se_5, se_6, se_7, se_8, se_9, se_10, se_11, se_12, se_13, se_14, se_15, se_16, se_17, se_18, se_19, e_const, e_load, e_store, e_iinc, e_dup, e_dup2, e_pop, e_iadd, e_isub, e_imul, e_ladd, e_lsub, e_lmul, e_iaddw, e_isubw, e_imulw, e_laddw, e_lsubw, e_lmulw, e_iand, e_ior, e_ishl, e_ishr, e_iushr, e_lcmp, e_imax, e_imin, e_idiv, e_irem, e_ldiv, e_lrem, e_i2l, e_i2b, e_l2i, e_i2c, e_getF, e_getR, e_putF, e_putR, e_putz, e_ald, e_aldR, e_ast, e_astb, e_astz, e_asta, e_len, e_acopy, e_new, e_newa, e_mna, e_this, e_room, e_call0, e_callv0, e_call1, e_callv1, e_inv1, e_invv1, e_call2, e_callv2, e_inv2, e_invv2, e_call3, e_callv3, e_inv3, e_invv3, e_call4, e_callv4, e_inv4, e_invv4, e_call5, e_callv5, e_inv5, e_invv5, e_call6, e_callv6, e_inv6, e_invv6, e_call7, e_callv7, e_inv7, e_invv7, e_call8, e_callv8, e_inv8, e_invv8, e_ret, e_retz, e_retc, e_retb, e_retv, e_skip, e_sco, e_tlen, e_tat, e_iz_eq0, e_iz_eq1, e_iz_ne0, e_iz_ne1, add0, sc_d, sc_t, inI_e, inL_e, up_eq, true_or, or_true, or_false, false_or, and_true, true_and, not_false_eq_true, Int.reduceAdd, Int.reduceSub, Int.reduceMul, Int.reduceNeg, ds_8 hS, cm_4 (ds_cm hS')]
      | with_reducible first | refine izl_lt (fun hc => ?_) (fun hc => ?_) | refine izl_ge (fun hc => ?_) (fun hc => ?_) | refine izl_eq (fun hc => ?_) (fun hc => ?_) | refine ic_ge (fun hc => ?_) (fun hc => ?_) | refine ic_lt (fun hc => ?_) (fun hc => ?_) | refine ic_ne (fun hc => ?_) (fun hc => ?_) | refine ic_eq (fun hc => ?_) (fun hc => ?_) | refine ic_le (fun hc => ?_) (fun hc => ?_) | refine ic_gt (fun hc => ?_) (fun hc => ?_) | refine iz_eq (fun hc => ?_) (fun hc => ?_) | refine iz_ne (fun hc => ?_) (fun hc => ?_) | refine iz_lt (fun hc => ?_) (fun hc => ?_) | refine iz_ge (fun hc => ?_) (fun hc => ?_) | refine iz_gt (fun hc => ?_) (fun hc => ?_) | refine iz_le (fun hc => ?_) (fun hc => ?_) | refine iz_nu (fun hc => ?_) (fun hc => ?_) | refine iz_nn (fun hc => ?_) (fun hc => ?_)
      | omega
      | (exfalso; omega)
    refine hQ F' E' ⟨?_, h11, hR, fun c u v => ?_, fun q u v => ?_, fun q u v => ?_⟩ hf he
    · rw [h00]; exact hI.1.symm
    · refine Or.inl ⟨by rw [hk4 _ _ (by omega)]; exact q12 c u v, fun l' x z => ?_⟩
      have : dwD C 6 l' = -2 := (hI.2.2.2 l' x z).2.2 6 (by omega) (by omega)
      omega
    · refine Or.inl ⟨by rw [hk4 _ _ (by omega)]; exact q13 q u v, fun l' x z w => ?_⟩
      have : dwD C 3 l' = 0 := (hI.2.2.2 l' x z).2.2 3 (by omega) (by omega)
      omega
    · rw [hk4 _ _ (by omega), hk4 _ _ (by omega), q14 q u v, p4 q u v]
      exact ⟨(hI.2.2.1 q).1.symm, (hI.2.2.1 q).2.symm⟩
end DAWN

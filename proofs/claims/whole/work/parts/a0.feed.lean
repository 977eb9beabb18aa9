/-! ===== bytes: feed ===== -/
def byt (v s : Int) : Int := bAnd (bUshr v s) 255
theorem byt_b (v s : Int) : 0 ≤ byt v s ∧ byt v s ≤ 255 := by
  unfold byt bAnd
  generalize Int32.ofInt (bUshr v s) = q
  have h1 : (q &&& Int32.ofInt 255).toBitVec = q.toBitVec &&& 255#32 := rfl
  have h2 : (q &&& Int32.ofInt 255).toInt = (q.toBitVec &&& 255#32).toInt := by rw [← h1]; rfl
  have h3 : (q.toBitVec &&& 255#32).toNat ≤ 255 := by
    rw [BitVec.toNat_and]
    exact Nat.and_le_right
  have h4 : (q.toBitVec &&& 255#32).toInt = ((q.toBitVec &&& 255#32).toNat : Int) := by
    rw [BitVec.toInt_eq_toNat_of_lt]
    omega
  rw [h2, h4]
  omega
theorem wB_wB (x : Int) : wB (wB x) = wB x := by
  unfold wB
  rw [Int32.ofInt_toInt]
  rw [Int8.toInt8_toInt32]
theorem byt_bv (x : BitVec 32) (s : Nat) (hs : s ≤ 24) : (x.sshiftRight s).setWidth 8 = ((x >>> s) &&& 255#32).setWidth 8 := by
  ext i hi
  simp only [BitVec.getElem_setWidth, BitVec.getLsbD_sshiftRight, BitVec.getLsbD_and, BitVec.getLsbD_ushiftRight]
  have e : (255#32).getLsbD i = true := by
    have : i = 0 ∨ i = 1 ∨ i = 2 ∨ i = 3 ∨ i = 4 ∨ i = 5 ∨ i = 6 ∨ i = 7 := by omega
    rcases this with rfl | rfl | rfl | rfl | rfl | rfl | rfl | rfl <;> rfl
  rw [e]
  have h1 : ¬ 32 ≤ i := by omega
  have h2 : s + i < 32 := by omega
  simp [h1, h2]
theorem byt_8 (x y : BitVec 32) (h : x.setWidth 8 = y.setWidth 8) : x.signExtend 8 = y.signExtend 8 := by
  rw [BitVec.signExtend_eq_setWidth_of_le _ (by decide), BitVec.signExtend_eq_setWidth_of_le _ (by decide)]
  exact h
theorem byt_w (v r : Int) (h0 : 0 ≤ r) (h4 : r < 4) : wB (bShr v (24 - 8 * r)) = wB (byt v (24 - 8 * r)) := by
  unfold wB byt bShr bAnd bUshr
  rw [Int32.ofInt_toInt, Int32.ofInt_toInt, Int32.ofInt_toInt]
  generalize Int32.ofInt v = x
  congr 2
  have : r = 0 ∨ r = 1 ∨ r = 2 ∨ r = 3 := by omega
  apply Int8.toBitVec_inj.mp
  rcases this with rfl | rfl | rfl | rfl
  · have e1 : (x >>> (Int32.ofInt (24 - 8 * 0) &&& 31)).toBitVec = x.toBitVec.sshiftRight 24 := rfl
    have e2 : ((x.toUInt32 >>> ((Int32.ofInt (24 - 8 * 0)).toUInt32 &&& Int32.toUInt32 31)).toInt32 &&& Int32.ofInt 255).toBitVec = (x.toBitVec >>> 24) &&& 255#32 := rfl
    exact byt_8 _ _ (byt_bv x.toBitVec 24 (by omega))
  · exact byt_8 _ _ (byt_bv x.toBitVec 16 (by omega))
  · exact byt_8 _ _ (byt_bv x.toBitVec 8 (by omega))
  · exact byt_8 _ _ (byt_bv x.toBitVec 0 (by omega))
/-! feed itself -/
def fX (B : Int) (R R' F F' E E' : Int → Int → Int) : Prop := ∀ b j : Int, (b < B ∨ B + 329 ≤ b) → R' b j = R b j ∧ F' b j = F b j ∧ E' b j = E b j
def fM (m : Int) (R R' F F' E E' : Int → Int → Int) : Prop := ∀ b j : Int, (b < m ∨ b = m + 16) → R' b j = R b j ∧ F' b j = F b j ∧ E' b j = E b j
theorem kpM.fa {m i : Int} {D E E' : Int → Int → Int} (h : kpM m i D E) (h7 : ∀ j : Int, E' (m + 7) j = E (m + 7) j) : kpM m i D E' := by
  obtain ⟨y1, y2, y3⟩ := h
  exact ⟨(h7 _).trans y1, fun f l x1 x2 x3 x4 => (h7 _).trans (y2 f l x1 x2 x3 x4), fun g x1 x2 => ⟨(h7 _).trans (y3 g x1 x2).1, (h7 _).trans (y3 g x1 x2).2⟩⟩
theorem haM.fa {m n : Int} {H : Int → Int → Int → Int} {HN : Int → Int} {F F' E E' : Int → Int → Int} (h : haM m n H HN F E) (h44 : F' m 44 = F m 44) (hE : ∀ b j : Int, (b = m + 14 ∨ b = m + 15) → E' b j = E b j) : haM m n H HN F' E' := by
  obtain ⟨y1, y2⟩ := h
  exact ⟨h44.trans y1, fun i u v => ⟨(hE _ _ (by omega)).trans (y2 i u v).1, fun q w x1 x2 x3 x4 => (hE _ _ (by omega)).trans ((y2 i u v).2 q w x1 x2 x3 x4)⟩⟩
def fdx (x0 x1 x2 x3 x4 q : Int) : Int := if q = 0 then x0 else if q = 1 then x1 else if q = 2 then x2 else if q = 3 then x3 else x4
def fdT (tp : Int → Int) (fd x0 x1 x2 x3 x4 : Int) : Int → Int := fun i => if fd ≤ i ∧ i < fd + 20 then byt (fdx x0 x1 x2 x3 x4 ((i - fd) / 4)) (24 - 8 * ((i - fd) % 4)) else tp i
section FEED
variable {L : Int → Int} {R R' F F' E E' : Int → Int → Int} {N : Nat} {Q : xQ} {B a m c fd tr fa pl k n t i j g x y z w h r p r0 p0 r1 p1 x0 x1 x2 x3 x4 x5 : Int} {C : Cy} {tp : Int → Int} {D : Int → Int → Int} {M H : Int → Int → Int → Int} {HN : Int → Int}
theorem rxC (h : rfM m c C tp fd tr fa pl D k M n H HN L R F E) (hF : ∀ b j : Int, ((b = m ∧ (j = 17 ∨ j = 38)) ∨ m + 16 < b) → F' b j = F b j) (hE : ∀ b j : Int, (b = m + 2 ∨ (m + 6 ≤ b ∧ b ≠ m + 7 ∧ b ≤ m + 11) ∨ m + 16 < b) → E' b j = E b j) : (R m 3 = -1 ∧ noC C) ∨ (0 < C 0 0 0 ∧ dmS m c C L R F' E' ∧ dmM m C D F' E') := by
  rcases rx_c h with z | ⟨z1, z2, z3⟩
  · exact Or.inl z
  · have hmc := es_mc z2
    exact Or.inr ⟨z1, z2.ga (hF _ _ (by omega)) (fun j => hF _ _ (by omega)) (fun b j w => hE _ _ (by omega)), z3.fr (hF _ _ (by omega)) (fun b j w => hE _ _ (by omega))⟩
theorem fdT_in {q r : Int} (q0 : 0 ≤ q) (q5 : q < 5) (r0 : 0 ≤ r) (r4 : r < 4) : fdT tp fd x0 x1 x2 x3 x4 (fd + 4 * q + r) = byt (fdx x0 x1 x2 x3 x4 q) (24 - 8 * r) := by
  unfold fdT
  rw [if_pos (by omega)]
  have e1 : (fd + 4 * q + r - fd) / 4 = q := by omega
  have e2 : (fd + 4 * q + r - fd) % 4 = r := by omega
  rw [e1, e2]
theorem fdT_out {i : Int} (h : i < fd) : fdT tp fd x0 x1 x2 x3 x4 i = tp i := by
  unfold fdT
  rw [if_neg (by omega)]
theorem sX_append {f v : Int} (hB : 0 ≤ B) (h0 : R B 0 = B + 1) (hl : L (B + 1) = 900) (hf : F B 1 = f) (f0 : 0 ≤ f) (f4 : f + 4 ≤ 900) (hQ : ∀ F' E' : Int → Int → Int, F' B 1 = f + 4 → (∀ b j : Int, (b ≠ B ∨ j ≠ 1) → F' b j = F b j) → (∀ b j : Int, (b ≠ B + 1 ∨ j < f ∨ f + 4 ≤ j) → E' b j = E b j) → (∀ q : Int, 0 ≤ q → q < 4 → E' (B + 1) (f + q) = byt v (24 - 8 * q)) → Q 0 (L, R, F', E', N)) : T_X8_append [B, v] (L, R, F, E, N) Q := by
  simp (disch := omega) only [t_X8_append, ue_X8_append, zLg, zRf, zFq, zEl, zNz, zUf, zUe, zUr, zCe, zSn, gd_0, gd_1, gd_2, gd_3, gd_4, gd_5, gd_6, gd_7, gd_8, gd_9, gd_10, gd_11, gd_12, gd_13, gd_14, gd_15, gd_16, gd_17, gd_18, gd_19, se_0, se_1, se_2, se_3, se_4, se_5, se_6, se_7, se_8, se_9, se_10, se_11, se_12, se_13, se_14, se_15, se_16, se_17, se_18, se_19, e_const, e_load, e_store, e_iinc, e_dup, e_dup2, e_pop, e_iadd, e_isub, e_imul, e_ladd, e_lsub, e_lmul, e_iaddw, e_isubw, e_imulw, e_laddw, e_lsubw, e_lmulw, e_iand, e_ior, e_ishl, e_ishr, e_iushr, e_lcmp, e_imax, e_imin, e_idiv, e_irem, e_ldiv, e_lrem, e_i2l, e_i2b, e_l2i, e_i2c, e_getF, e_getR, e_putF, e_putR, e_putz, e_ald, e_aldR, e_ast, e_astb, e_astz, e_asta, e_len, e_acopy, e_new, e_newa, e_mna, e_this, e_room, e_call0, e_callv0, e_call1, e_callv1, e_inv1, e_invv1, e_call2, e_callv2, e_inv2, e_invv2, e_call3, e_callv3, e_inv3, e_invv3, e_call4, e_callv4, e_inv4, e_invv4, e_call5, e_callv5, e_inv5, e_invv5, e_call6, e_callv6, e_inv6, e_invv6, e_call7, e_callv7, e_inv7, e_invv7, e_call8, e_callv8, e_inv8, e_invv8, e_ret, e_retz, e_retc, e_retb, e_retv, e_skip, e_sco, e_tlen, e_tat, e_iz_eq0, e_iz_eq1, e_iz_ne0, e_iz_ne1, add0, sc_d, sc_t, inI_e, inL_e, up_eq, true_or, or_true, or_false, false_or, and_true, true_and, not_false_eq_true, Int.reduceAdd, Int.reduceSub, Int.reduceMul, Int.reduceNeg]
  unfold L_X8_append_3
  refine lpw (fun nn lo st h c s => ∃ (i : Int) (F' E' : Int → Int → Int), lo = [B, v, 24 - 8 * i] ∧ st = [] ∧ h = (L, R, F', E', N) ∧ 0 ≤ i ∧ i ≤ 4 ∧ (nn : Int) = 4 - i ∧ F' B 1 = f + i ∧ (∀ b j : Int, (b ≠ B ∨ j ≠ 1) → F' b j = F b j) ∧ (∀ b j : Int, (b ≠ B + 1 ∨ j < f ∨ f + 4 ≤ j) → E' b j = E b j) ∧ (∀ q : Int, 0 ≤ q → q < i → E' (B + 1) (f + q) = byt v (24 - 8 * q))) ?_ (n := 4) ⟨0, F, E, rfl, rfl, rfl, by omega, by omega, by omega, by omega, fun _ _ _ => rfl, fun _ _ _ => rfl, fun q u w => by omega⟩
  rintro nn kk hkk lo st h c9 s9 ⟨i, F2, E2, rfl, rfl, rfl, hi, hi2, hn1, hf1, hF, hE, hq⟩
  by_cases hlt : i < 4
  · have e8 : 24 - 8 * i + -8 = 24 - 8 * (i + 1) := by omega
    repeat' first
      | exact absurd hc (by decide)
      | simp (disch := omega) only [zLg, zRf, zFq, zEl, zNz, zUf, zUe, zUr, zCe, zSn, gd_0, gd_1, gd_2, gd_3, gd_4, gd_5, gd_6, gd_7, gd_8, gd_9, gd_10, gd_11, gd_12, gd_13, gd_14, gd_15, gd_16, gd_17, gd_18, gd_19, se_0, se_1, se_2, se_3, se_4, se_5, se_6, se_7, se_8, se_9, se_10, se_11, se_12, se_13, se_14, se_15, se_16, se_17, se_18, se_19, e_const, e_load, e_store, e_iinc, e_dup, e_dup2, e_pop, e_iadd, e_isub, e_imul, e_ladd, e_lsub, e_lmul, e_iaddw, e_isubw, e_imulw, e_laddw, e_lsubw, e_lmulw, e_iand, e_ior, e_ishl, e_ishr, e_iushr, e_lcmp, e_imax, e_imin, e_idiv, e_irem, e_ldiv, e_lrem, e_i2l, e_i2b, e_l2i, e_i2c, e_getF, e_getR, e_putF, e_putR, e_putz, e_ald, e_aldR, e_ast, e_astb, e_astz, e_asta, e_len, e_acopy, e_new, e_newa, e_mna, e_this, e_room, e_call0, e_callv0, e_call1, e_callv1, e_inv1, e_invv1, e_call2, e_callv2, e_inv2, e_invv2, e_call3, e_callv3, e_inv3, e_invv3, e_call4, e_callv4, e_inv4, e_invv4, e_call5, e_callv5, e_inv5, e_invv5, e_call6, e_callv6, e_inv6, e_invv6, e_call7, e_callv7, e_inv7, e_invv7, e_call8, e_callv8, e_inv8, e_invv8, e_ret, e_retz, e_retc, e_retb, e_retv, e_skip, e_sco, e_tlen, e_tat, e_iz_eq0, e_iz_eq1, e_iz_ne0, e_iz_ne1, add0, sc_d, sc_t, inI_e, inL_e, up_eq, true_or, or_true, or_false, false_or, and_true, true_and, not_false_eq_true, Int.reduceAdd, Int.reduceSub, Int.reduceMul, Int.reduceNeg, hf1, h0, hl, e8]
      | with_reducible first | refine izl_lt (fun hc => ?_) (fun hc => ?_) | refine izl_ge (fun hc => ?_) (fun hc => ?_) | refine izl_eq (fun hc => ?_) (fun hc => ?_) | refine ic_ge (fun hc => ?_) (fun hc => ?_) | refine ic_lt (fun hc => ?_) (fun hc => ?_) | refine ic_ne (fun hc => ?_) (fun hc => ?_) | refine ic_eq (fun hc => ?_) (fun hc => ?_) | refine ic_le (fun hc => ?_) (fun hc => ?_) | refine ic_gt (fun hc => ?_) (fun hc => ?_) | refine iz_eq (fun hc => ?_) (fun hc => ?_) | refine iz_ne (fun hc => ?_) (fun hc => ?_) | refine iz_lt (fun hc => ?_) (fun hc => ?_) | refine iz_ge (fun hc => ?_) (fun hc => ?_) | refine iz_gt (fun hc => ?_) (fun hc => ?_) | refine iz_le (fun hc => ?_) (fun hc => ?_) | refine iz_nu (fun hc => ?_) (fun hc => ?_) | refine iz_nn (fun hc => ?_) (fun hc => ?_)
      | omega
      | (exfalso; omega)
    refine hkk (nn - 1) _ _ _ _ _ (by omega) ⟨i + 1, _, _, rfl, rfl, rfl, by omega, by omega, by omega, by rw [up_eq]; omega, fun b j z => (up_ne (by omega)).trans (hF b j z), fun b j z => (up_ne (by omega)).trans (hE b j z), fun q u w => ?_⟩
    by_cases z : q = i
    · subst z
      rw [up_eq]
      rfl
    · rw [up_ne (by omega)]
      exact hq q u (by omega)
  · have hie : i = 4 := by omega
    subst hie
    repeat' first
      | exact absurd hc (by decide)
      | simp (disch := omega) only [ub_X8_append_49, zLg, zRf, zFq, zEl, zNz, zUf, zUe, zUr, zCe, zSn, gd_0, gd_1, gd_2, gd_3, gd_4, gd_5, gd_6, gd_7, gd_8, gd_9, gd_10, gd_11, gd_12, gd_13, gd_14, gd_15, gd_16, gd_17, gd_18, gd_19, se_0, se_1, se_2, se_3, se_4, se_5, se_6, se_7, se_8, se_9, se_10, se_11, se_12, se_13, se_14, se_15, se_16, se_17, se_18, se_19, e_const, e_load, e_store, e_iinc, e_dup, e_dup2, e_pop, e_iadd, e_isub, e_imul, e_ladd, e_lsub, e_lmul, e_iaddw, e_isubw, e_imulw, e_laddw, e_lsubw, e_lmulw, e_iand, e_ior, e_ishl, e_ishr, e_iushr, e_lcmp, e_imax, e_imin, e_idiv, e_irem, e_ldiv, e_lrem, e_i2l, e_i2b, e_l2i, e_i2c, e_getF, e_getR, e_putF, e_putR, e_putz, e_ald, e_aldR, e_ast, e_astb, e_astz, e_asta, e_len, e_acopy, e_new, e_newa, e_mna, e_this, e_room, e_call0, e_callv0, e_call1, e_callv1, e_inv1, e_invv1, e_call2, e_callv2, e_inv2, e_invv2, e_call3, e_callv3, e_inv3, e_invv3, e_call4, e_callv4, e_inv4, e_invv4, e_call5, e_callv5, e_inv5, e_invv5, e_call6, e_callv6, e_inv6, e_invv6, e_call7, e_callv7, e_inv7, e_invv7, e_call8, e_callv8, e_inv8, e_invv8, e_ret, e_retz, e_retc, e_retb, e_retv, e_skip, e_sco, e_tlen, e_tat, e_iz_eq0, e_iz_eq1, e_iz_ne0, e_iz_ne1, add0, sc_d, sc_t, inI_e, inL_e, up_eq, true_or, or_true, or_false, false_or, and_true, true_and, not_false_eq_true, Int.reduceAdd, Int.reduceSub, Int.reduceMul, Int.reduceNeg]
      | with_reducible first | refine izl_lt (fun hc => ?_) (fun hc => ?_) | refine izl_ge (fun hc => ?_) (fun hc => ?_) | refine izl_eq (fun hc => ?_) (fun hc => ?_) | refine ic_ge (fun hc => ?_) (fun hc => ?_) | refine ic_lt (fun hc => ?_) (fun hc => ?_) | refine ic_ne (fun hc => ?_) (fun hc => ?_) | refine ic_eq (fun hc => ?_) (fun hc => ?_) | refine ic_le (fun hc => ?_) (fun hc => ?_) | refine ic_gt (fun hc => ?_) (fun hc => ?_) | refine iz_eq (fun hc => ?_) (fun hc => ?_) | refine iz_ne (fun hc => ?_) (fun hc => ?_) | refine iz_lt (fun hc => ?_) (fun hc => ?_) | refine iz_ge (fun hc => ?_) (fun hc => ?_) | refine iz_gt (fun hc => ?_) (fun hc => ?_) | refine iz_le (fun hc => ?_) (fun hc => ?_) | refine iz_nu (fun hc => ?_) (fun hc => ?_) | refine iz_nn (fun hc => ?_) (fun hc => ?_)
      | omega
      | (exfalso; omega)
    all_goals exact hQ _ _ hf1 hF hE hq
theorem cX_feed (hT : clT B a L R) (hM : clM B a C tp fd tr fa pl D k M n H HN R F E) (hs : stW C tp fd tr D k M n H HN) (h1 : fd + 20 ≤ 900 → ∀ F' E' : Int → Int → Int, clM B a C (fdT tp fd x0 x1 x2 x3 x4) (fd + 20) tr fa pl D k M n H HN R F' E' → fX B R R F F' E E' → Q (fd + 20) (L, R, F', E', N)) (h0 : ¬ fd + 20 ≤ 900 → Q (-1) (L, R, F, E, N)) : T_X8_feed [B, x0, x1, x2, x3, x4] (L, R, F, E, N) Q := by
  have pB := cl_p hT
  have ca := cl_a hT
  have pa : 0 ≤ a := by omega
  have h2 := cl_2 hT
  have hC := cx_c hM
  have hW := sw_w hs
  have hct := cl_ct hT
  have bn := sw_n hs
  have bk := sw_k hs
  have bf := sw_f hs
  have b0 := cw_0 hW
  have b1 := cw_1 hW
  have b2 := cw_2 hW
  have b3 := cw_3 hW
  have b4 := cw_4 hW
  have r0 := cl_0 hT
  have l1 := cl_l1 hT
  have e1 := cx_1 hM
  by_cases hfd : fd + 20 ≤ 900
  · simp (disch := omega) only [t_X8_feed, ue_X8_feed, zLg, zRf, zFq, zEl, zNz, zUf, zUe, zUr, zCe, zSn, gd_0, gd_1, gd_2, gd_3, gd_4, gd_5, gd_6, gd_7, gd_8, gd_9, gd_10, gd_11, gd_12, gd_13, gd_14, gd_15, gd_16, gd_17, gd_18, gd_19, se_0, se_1, se_2, se_3, se_4, se_5, se_6, se_7, se_8, se_9, se_10, se_11, se_12, se_13, se_14, se_15, se_16, se_17, se_18, se_19, e_const, e_load, e_store, e_iinc, e_dup, e_dup2, e_pop, e_iadd, e_isub, e_imul, e_ladd, e_lsub, e_lmul, e_iaddw, e_isubw, e_imulw, e_laddw, e_lsubw, e_lmulw, e_iand, e_ior, e_ishl, e_ishr, e_iushr, e_lcmp, e_imax, e_imin, e_idiv, e_irem, e_ldiv, e_lrem, e_i2l, e_i2b, e_l2i, e_i2c, e_getF, e_getR, e_putF, e_putR, e_putz, e_ald, e_aldR, e_ast, e_astb, e_astz, e_asta, e_len, e_acopy, e_new, e_newa, e_mna, e_this, e_room, e_call0, e_callv0, e_call1, e_callv1, e_inv1, e_invv1, e_call2, e_callv2, e_inv2, e_invv2, e_call3, e_callv3, e_inv3, e_invv3, e_call4, e_callv4, e_inv4, e_invv4, e_call5, e_callv5, e_inv5, e_invv5, e_call6, e_callv6, e_inv6, e_invv6, e_call7, e_callv7, e_inv7, e_invv7, e_call8, e_callv8, e_inv8, e_invv8, e_ret, e_retz, e_retc, e_retb, e_retv, e_skip, e_sco, e_tlen, e_tat, e_iz_eq0, e_iz_eq1, e_iz_ne0, e_iz_ne1, add0, sc_d, sc_t, inI_e, inL_e, up_eq, true_or, or_true, or_false, false_or, and_true, true_and, not_false_eq_true, Int.reduceAdd, Int.reduceSub, Int.reduceMul, Int.reduceNeg, e1]
    repeat' first
      | exact absurd hc (by decide)
      | simp (disch := omega) only [zLg, zRf, zFq, zEl, zNz, zUf, zUe, zUr, zCe, zSn, gd_0, gd_1, gd_2, gd_3, gd_4, gd_5, gd_6, gd_7, gd_8, gd_9, gd_10, gd_11, gd_12, gd_13, gd_14, gd_15, gd_16, gd_17, gd_18, gd_19, se_0, se_1, se_2, se_3, se_4, se_5, se_6, se_7, se_8, se_9, se_10, se_11, se_12, se_13, se_14, se_15, se_16, se_17, se_18, se_19, e_const, e_load, e_store, e_iinc, e_dup, e_dup2, e_pop, e_iadd, e_isub, e_imul, e_ladd, e_lsub, e_lmul, e_iaddw, e_isubw, e_imulw, e_laddw, e_lsubw, e_lmulw, e_iand, e_ior, e_ishl, e_ishr, e_iushr, e_lcmp, e_imax, e_imin, e_idiv, e_irem, e_ldiv, e_lrem, e_i2l, e_i2b, e_l2i, e_i2c, e_getF, e_getR, e_putF, e_putR, e_putz, e_ald, e_aldR, e_ast, e_astb, e_astz, e_asta, e_len, e_acopy, e_new, e_newa, e_mna, e_this, e_room, e_call0, e_callv0, e_call1, e_callv1, e_inv1, e_invv1, e_call2, e_callv2, e_inv2, e_invv2, e_call3, e_callv3, e_inv3, e_invv3, e_call4, e_callv4, e_inv4, e_invv4, e_call5, e_callv5, e_inv5, e_invv5, e_call6, e_callv6, e_inv6, e_invv6, e_call7, e_callv7, e_inv7, e_invv7, e_call8, e_callv8, e_inv8, e_invv8, e_ret, e_retz, e_retc, e_retb, e_retv, e_skip, e_sco, e_tlen, e_tat, e_iz_eq0, e_iz_eq1, e_iz_ne0, e_iz_ne1, add0, sc_d, sc_t, inI_e, inL_e, up_eq, true_or, or_true, or_false, false_or, and_true, true_and, not_false_eq_true, Int.reduceAdd, Int.reduceSub, Int.reduceMul, Int.reduceNeg]
      | with_reducible first | refine izl_lt (fun hc => ?_) (fun hc => ?_) | refine izl_ge (fun hc => ?_) (fun hc => ?_) | refine izl_eq (fun hc => ?_) (fun hc => ?_) | refine ic_ge (fun hc => ?_) (fun hc => ?_) | refine ic_lt (fun hc => ?_) (fun hc => ?_) | refine ic_ne (fun hc => ?_) (fun hc => ?_) | refine ic_eq (fun hc => ?_) (fun hc => ?_) | refine ic_le (fun hc => ?_) (fun hc => ?_) | refine ic_gt (fun hc => ?_) (fun hc => ?_) | refine iz_eq (fun hc => ?_) (fun hc => ?_) | refine iz_ne (fun hc => ?_) (fun hc => ?_) | refine iz_lt (fun hc => ?_) (fun hc => ?_) | refine iz_ge (fun hc => ?_) (fun hc => ?_) | refine iz_gt (fun hc => ?_) (fun hc => ?_) | refine iz_le (fun hc => ?_) (fun hc => ?_) | refine iz_nu (fun hc => ?_) (fun hc => ?_) | refine iz_nn (fun hc => ?_) (fun hc => ?_)
      | omega
      | (exfalso; omega)
    refine sX_append pB r0 l1 e1 (by omega) (by omega) (fun Fa Ea a1 a2 a3 a4 => ?_)
    try simp (disch := omega) only [zLg, zRf, zFq, zEl, zNz, zUf, zUe, zUr, zCe, zSn, gd_0, gd_1, gd_2, gd_3, gd_4, gd_5, gd_6, gd_7, gd_8, gd_9, gd_10, gd_11, gd_12, gd_13, gd_14, gd_15, gd_16, gd_17, gd_18, gd_19, se_0, se_1, se_2, se_3, se_4, se_5, se_6, se_7, se_8, se_9, se_10, se_11, se_12, se_13, se_14, se_15, se_16, se_17, se_18, se_19, e_const, e_load, e_store, e_iinc, e_dup, e_dup2, e_pop, e_iadd, e_isub, e_imul, e_ladd, e_lsub, e_lmul, e_iaddw, e_isubw, e_imulw, e_laddw, e_lsubw, e_lmulw, e_iand, e_ior, e_ishl, e_ishr, e_iushr, e_lcmp, e_imax, e_imin, e_idiv, e_irem, e_ldiv, e_lrem, e_i2l, e_i2b, e_l2i, e_i2c, e_getF, e_getR, e_putF, e_putR, e_putz, e_ald, e_aldR, e_ast, e_astb, e_astz, e_asta, e_len, e_acopy, e_new, e_newa, e_mna, e_this, e_room, e_call0, e_callv0, e_call1, e_callv1, e_inv1, e_invv1, e_call2, e_callv2, e_inv2, e_invv2, e_call3, e_callv3, e_inv3, e_invv3, e_call4, e_callv4, e_inv4, e_invv4, e_call5, e_callv5, e_inv5, e_invv5, e_call6, e_callv6, e_inv6, e_invv6, e_call7, e_callv7, e_inv7, e_invv7, e_call8, e_callv8, e_inv8, e_invv8, e_ret, e_retz, e_retc, e_retb, e_retv, e_skip, e_sco, e_tlen, e_tat, e_iz_eq0, e_iz_eq1, e_iz_ne0, e_iz_ne1, add0, sc_d, sc_t, inI_e, inL_e, up_eq, true_or, or_true, or_false, false_or, and_true, true_and, not_false_eq_true, Int.reduceAdd, Int.reduceSub, Int.reduceMul, Int.reduceNeg]
    refine sX_append pB r0 l1 a1 (by omega) (by omega) (fun Fb Eb b1 b2 b3 b4 => ?_)
    try simp (disch := omega) only [zLg, zRf, zFq, zEl, zNz, zUf, zUe, zUr, zCe, zSn, gd_0, gd_1, gd_2, gd_3, gd_4, gd_5, gd_6, gd_7, gd_8, gd_9, gd_10, gd_11, gd_12, gd_13, gd_14, gd_15, gd_16, gd_17, gd_18, gd_19, se_0, se_1, se_2, se_3, se_4, se_5, se_6, se_7, se_8, se_9, se_10, se_11, se_12, se_13, se_14, se_15, se_16, se_17, se_18, se_19, e_const, e_load, e_store, e_iinc, e_dup, e_dup2, e_pop, e_iadd, e_isub, e_imul, e_ladd, e_lsub, e_lmul, e_iaddw, e_isubw, e_imulw, e_laddw, e_lsubw, e_lmulw, e_iand, e_ior, e_ishl, e_ishr, e_iushr, e_lcmp, e_imax, e_imin, e_idiv, e_irem, e_ldiv, e_lrem, e_i2l, e_i2b, e_l2i, e_i2c, e_getF, e_getR, e_putF, e_putR, e_putz, e_ald, e_aldR, e_ast, e_astb, e_astz, e_asta, e_len, e_acopy, e_new, e_newa, e_mna, e_this, e_room, e_call0, e_callv0, e_call1, e_callv1, e_inv1, e_invv1, e_call2, e_callv2, e_inv2, e_invv2, e_call3, e_callv3, e_inv3, e_invv3, e_call4, e_callv4, e_inv4, e_invv4, e_call5, e_callv5, e_inv5, e_invv5, e_call6, e_callv6, e_inv6, e_invv6, e_call7, e_callv7, e_inv7, e_invv7, e_call8, e_callv8, e_inv8, e_invv8, e_ret, e_retz, e_retc, e_retb, e_retv, e_skip, e_sco, e_tlen, e_tat, e_iz_eq0, e_iz_eq1, e_iz_ne0, e_iz_ne1, add0, sc_d, sc_t, inI_e, inL_e, up_eq, true_or, or_true, or_false, false_or, and_true, true_and, not_false_eq_true, Int.reduceAdd, Int.reduceSub, Int.reduceMul, Int.reduceNeg]
    refine sX_append pB r0 l1 b1 (by omega) (by omega) (fun Fc Ec c1 c2 c3 c4 => ?_)
    try simp (disch := omega) only [zLg, zRf, zFq, zEl, zNz, zUf, zUe, zUr, zCe, zSn, gd_0, gd_1, gd_2, gd_3, gd_4, gd_5, gd_6, gd_7, gd_8, gd_9, gd_10, gd_11, gd_12, gd_13, gd_14, gd_15, gd_16, gd_17, gd_18, gd_19, se_0, se_1, se_2, se_3, se_4, se_5, se_6, se_7, se_8, se_9, se_10, se_11, se_12, se_13, se_14, se_15, se_16, se_17, se_18, se_19, e_const, e_load, e_store, e_iinc, e_dup, e_dup2, e_pop, e_iadd, e_isub, e_imul, e_ladd, e_lsub, e_lmul, e_iaddw, e_isubw, e_imulw, e_laddw, e_lsubw, e_lmulw, e_iand, e_ior, e_ishl, e_ishr, e_iushr, e_lcmp, e_imax, e_imin, e_idiv, e_irem, e_ldiv, e_lrem, e_i2l, e_i2b, e_l2i, e_i2c, e_getF, e_getR, e_putF, e_putR, e_putz, e_ald, e_aldR, e_ast, e_astb, e_astz, e_asta, e_len, e_acopy, e_new, e_newa, e_mna, e_this, e_room, e_call0, e_callv0, e_call1, e_callv1, e_inv1, e_invv1, e_call2, e_callv2, e_inv2, e_invv2, e_call3, e_callv3, e_inv3, e_invv3, e_call4, e_callv4, e_inv4, e_invv4, e_call5, e_callv5, e_inv5, e_invv5, e_call6, e_callv6, e_inv6, e_invv6, e_call7, e_callv7, e_inv7, e_invv7, e_call8, e_callv8, e_inv8, e_invv8, e_ret, e_retz, e_retc, e_retb, e_retv, e_skip, e_sco, e_tlen, e_tat, e_iz_eq0, e_iz_eq1, e_iz_ne0, e_iz_ne1, add0, sc_d, sc_t, inI_e, inL_e, up_eq, true_or, or_true, or_false, false_or, and_true, true_and, not_false_eq_true, Int.reduceAdd, Int.reduceSub, Int.reduceMul, Int.reduceNeg]
    refine sX_append pB r0 l1 c1 (by omega) (by omega) (fun Fd Ed d1 d2 d3 d4 => ?_)
    try simp (disch := omega) only [zLg, zRf, zFq, zEl, zNz, zUf, zUe, zUr, zCe, zSn, gd_0, gd_1, gd_2, gd_3, gd_4, gd_5, gd_6, gd_7, gd_8, gd_9, gd_10, gd_11, gd_12, gd_13, gd_14, gd_15, gd_16, gd_17, gd_18, gd_19, se_0, se_1, se_2, se_3, se_4, se_5, se_6, se_7, se_8, se_9, se_10, se_11, se_12, se_13, se_14, se_15, se_16, se_17, se_18, se_19, e_const, e_load, e_store, e_iinc, e_dup, e_dup2, e_pop, e_iadd, e_isub, e_imul, e_ladd, e_lsub, e_lmul, e_iaddw, e_isubw, e_imulw, e_laddw, e_lsubw, e_lmulw, e_iand, e_ior, e_ishl, e_ishr, e_iushr, e_lcmp, e_imax, e_imin, e_idiv, e_irem, e_ldiv, e_lrem, e_i2l, e_i2b, e_l2i, e_i2c, e_getF, e_getR, e_putF, e_putR, e_putz, e_ald, e_aldR, e_ast, e_astb, e_astz, e_asta, e_len, e_acopy, e_new, e_newa, e_mna, e_this, e_room, e_call0, e_callv0, e_call1, e_callv1, e_inv1, e_invv1, e_call2, e_callv2, e_inv2, e_invv2, e_call3, e_callv3, e_inv3, e_invv3, e_call4, e_callv4, e_inv4, e_invv4, e_call5, e_callv5, e_inv5, e_invv5, e_call6, e_callv6, e_inv6, e_invv6, e_call7, e_callv7, e_inv7, e_invv7, e_call8, e_callv8, e_inv8, e_invv8, e_ret, e_retz, e_retc, e_retb, e_retv, e_skip, e_sco, e_tlen, e_tat, e_iz_eq0, e_iz_eq1, e_iz_ne0, e_iz_ne1, add0, sc_d, sc_t, inI_e, inL_e, up_eq, true_or, or_true, or_false, false_or, and_true, true_and, not_false_eq_true, Int.reduceAdd, Int.reduceSub, Int.reduceMul, Int.reduceNeg]
    refine sX_append pB r0 l1 d1 (by omega) (by omega) (fun Fe Ee e1 e2 e3 e4 => ?_)
    simp (disch := omega) only [zLg, zRf, zFq, zEl, zNz, zUf, zUe, zUr, zCe, zSn, gd_0, gd_1, gd_2, gd_3, gd_4, gd_5, gd_6, gd_7, gd_8, gd_9, gd_10, gd_11, gd_12, gd_13, gd_14, gd_15, gd_16, gd_17, gd_18, gd_19, se_0, se_1, se_2, se_3, se_4, se_5, se_6, se_7, se_8, se_9, se_10, se_11, se_12, se_13, se_14, se_15, se_16, se_17, se_18, se_19, e_const, e_load, e_store, e_iinc, e_dup, e_dup2, e_pop, e_iadd, e_isub, e_imul, e_ladd, e_lsub, e_lmul, e_iaddw, e_isubw, e_imulw, e_laddw, e_lsubw, e_lmulw, e_iand, e_ior, e_ishl, e_ishr, e_iushr, e_lcmp, e_imax, e_imin, e_idiv, e_irem, e_ldiv, e_lrem, e_i2l, e_i2b, e_l2i, e_i2c, e_getF, e_getR, e_putF, e_putR, e_putz, e_ald, e_aldR, e_ast, e_astb, e_astz, e_asta, e_len, e_acopy, e_new, e_newa, e_mna, e_this, e_room, e_call0, e_callv0, e_call1, e_callv1, e_inv1, e_invv1, e_call2, e_callv2, e_inv2, e_invv2, e_call3, e_callv3, e_inv3, e_invv3, e_call4, e_callv4, e_inv4, e_invv4, e_call5, e_callv5, e_inv5, e_invv5, e_call6, e_callv6, e_inv6, e_invv6, e_call7, e_callv7, e_inv7, e_invv7, e_call8, e_callv8, e_inv8, e_invv8, e_ret, e_retz, e_retc, e_retb, e_retv, e_skip, e_sco, e_tlen, e_tat, e_iz_eq0, e_iz_eq1, e_iz_ne0, e_iz_ne1, add0, sc_d, sc_t, inI_e, inL_e, up_eq, true_or, or_true, or_false, false_or, and_true, true_and, not_false_eq_true, Int.reduceAdd, Int.reduceSub, Int.reduceMul, Int.reduceNeg, e1]
    have ef : fd + 4 + 4 + 4 + 4 + 4 = fd + 20 := by omega
    rw [ef] at e1 ⊢
    have qF : ∀ b j : Int, (b ≠ B ∨ j ≠ 1) → Fe b j = F b j := fun b j z => by rw [e2 b j z, d2 b j z, c2 b j z, b2 b j z, a2 b j z]
    have qE : ∀ b j : Int, (b ≠ B + 1 ∨ j < fd ∨ fd + 20 ≤ j) → Ee b j = E b j := fun b j z => by rw [e3 b j (by omega), d3 b j (by omega), c3 b j (by omega), b3 b j (by omega), a3 b j (by omega)]
    have qR : ∀ b j : Int, True → R b j = R b j := fun _ _ _ => rfl
    refine h1 hfd Fe Ee ⟨(cx_c hM).fa hW (fun b j u v => qF b j (by omega)) (fun b j u v => qE b j (by omega)), e1, fun i u v => ?_, (qF _ _ (by omega)).trans (cx_15 hM), (qF _ _ (by omega)).trans (cx_17 hM), fun z => (qF _ _ (by omega)).trans (cx_16 hM z), fun o u v => (cx_w hM o u v).fa (fun j => qF _ _ (by omega)) (fun j => qE _ _ (by omega)), cx_f hM, cx_d8 hM, cx_d9 hM, (qF _ _ (by omega)).trans (cx_d0 hM), (qF _ _ (by omega)).trans (cx_d1 hM), fun z => (cx_d hM z).fa (fun j => qF _ _ (by omega)) (fun b j u v => qE _ _ (by omega)), (qF _ _ (by omega)).trans (cx_11 hM), fun i u v => ⟨(cx_m hM i u v).1, (cx_m hM i u v).2.1, (cx_m hM i u v).2.2.fa (fun j => qF _ _ (by omega)) (fun b j u v => qE _ _ (by omega))⟩, (cx_a hM).fa bn.2 (qF _ _ (by omega)) (fun b j u v => qE _ _ (by omega)), ⟨(qF _ _ (by omega)).trans (cx_r hM).1, (qF _ _ (by omega)).trans (cx_r hM).2.1, (qF _ _ (by omega)).trans (cx_r hM).2.2.1, (qF _ _ (by omega)).trans (cx_r hM).2.2.2⟩⟩ (fun b j z => ⟨rfl, qF b j (by omega), qE b j (by omega)⟩)
    by_cases hi : i < fd
    · rw [fdT_out hi, qE _ _ (by omega)]
      exact cx_t hM i u hi
    · obtain ⟨q, r, q0, q5, r0, r4, rfl⟩ : ∃ q r : Int, 0 ≤ q ∧ q < 5 ∧ 0 ≤ r ∧ r < 4 ∧ i = fd + 4 * q + r := ⟨(i - fd) / 4, (i - fd) % 4, by omega, by omega, by omega, by omega, by omega⟩
      rw [fdT_in q0 q5 r0 r4]
      have hq : q = 0 ∨ q = 1 ∨ q = 2 ∨ q = 3 ∨ q = 4 := by omega
      rcases hq with rfl | rfl | rfl | rfl | rfl
      · rw [e3 _ _ (by omega), d3 _ _ (by omega), c3 _ _ (by omega), b3 _ _ (by omega)]
        have := a4 r r0 r4
        rw [show fd + 4 * 0 + r = fd + r by omega]
        exact this
      · rw [e3 _ _ (by omega), d3 _ _ (by omega), c3 _ _ (by omega)]
        have := b4 r r0 r4
        rw [show fd + 4 * 1 + r = fd + 4 + r by omega]
        exact this
      · rw [e3 _ _ (by omega), d3 _ _ (by omega)]
        have := c4 r r0 r4
        rw [show fd + 4 * 2 + r = fd + 4 + 4 + r by omega]
        exact this
      · rw [e3 _ _ (by omega)]
        have := d4 r r0 r4
        rw [show fd + 4 * 3 + r = fd + 4 + 4 + 4 + r by omega]
        exact this
      · have := e4 r r0 r4
        rw [show fd + 4 * 4 + r = fd + 4 + 4 + 4 + 4 + r by omega]
        exact this
  · simp (disch := omega) only [t_X8_feed, ue_X8_feed, zLg, zRf, zFq, zEl, zNz, zUf, zUe, zUr, zCe, zSn, gd_0, gd_1, gd_2, gd_3, gd_4, gd_5, gd_6, gd_7, gd_8, gd_9, gd_10, gd_11, gd_12, gd_13, gd_14, gd_15, gd_16, gd_17, gd_18, gd_19, se_0, se_1, se_2, se_3, se_4, se_5, se_6, se_7, se_8, se_9, se_10, se_11, se_12, se_13, se_14, se_15, se_16, se_17, se_18, se_19, e_const, e_load, e_store, e_iinc, e_dup, e_dup2, e_pop, e_iadd, e_isub, e_imul, e_ladd, e_lsub, e_lmul, e_iaddw, e_isubw, e_imulw, e_laddw, e_lsubw, e_lmulw, e_iand, e_ior, e_ishl, e_ishr, e_iushr, e_lcmp, e_imax, e_imin, e_idiv, e_irem, e_ldiv, e_lrem, e_i2l, e_i2b, e_l2i, e_i2c, e_getF, e_getR, e_putF, e_putR, e_putz, e_ald, e_aldR, e_ast, e_astb, e_astz, e_asta, e_len, e_acopy, e_new, e_newa, e_mna, e_this, e_room, e_call0, e_callv0, e_call1, e_callv1, e_inv1, e_invv1, e_call2, e_callv2, e_inv2, e_invv2, e_call3, e_callv3, e_inv3, e_invv3, e_call4, e_callv4, e_inv4, e_invv4, e_call5, e_callv5, e_inv5, e_invv5, e_call6, e_callv6, e_inv6, e_invv6, e_call7, e_callv7, e_inv7, e_invv7, e_call8, e_callv8, e_inv8, e_invv8, e_ret, e_retz, e_retc, e_retb, e_retv, e_skip, e_sco, e_tlen, e_tat, e_iz_eq0, e_iz_eq1, e_iz_ne0, e_iz_ne1, add0, sc_d, sc_t, inI_e, inL_e, up_eq, true_or, or_true, or_false, false_or, and_true, true_and, not_false_eq_true, Int.reduceAdd, Int.reduceSub, Int.reduceMul, Int.reduceNeg, e1]
    repeat' first
      | exact absurd hc (by decide)
      | simp (disch := omega) only [zLg, zRf, zFq, zEl, zNz, zUf, zUe, zUr, zCe, zSn, gd_0, gd_1, gd_2, gd_3, gd_4, gd_5, gd_6, gd_7, gd_8, gd_9, gd_10, gd_11, gd_12, gd_13, gd_14, gd_15, gd_16, gd_17, gd_18, gd_19, se_0, se_1, se_2, se_3, se_4, se_5, se_6, se_7, se_8, se_9, se_10, se_11, se_12, se_13, se_14, se_15, se_16, se_17, se_18, se_19, e_const, e_load, e_store, e_iinc, e_dup, e_dup2, e_pop, e_iadd, e_isub, e_imul, e_ladd, e_lsub, e_lmul, e_iaddw, e_isubw, e_imulw, e_laddw, e_lsubw, e_lmulw, e_iand, e_ior, e_ishl, e_ishr, e_iushr, e_lcmp, e_imax, e_imin, e_idiv, e_irem, e_ldiv, e_lrem, e_i2l, e_i2b, e_l2i, e_i2c, e_getF, e_getR, e_putF, e_putR, e_putz, e_ald, e_aldR, e_ast, e_astb, e_astz, e_asta, e_len, e_acopy, e_new, e_newa, e_mna, e_this, e_room, e_call0, e_callv0, e_call1, e_callv1, e_inv1, e_invv1, e_call2, e_callv2, e_inv2, e_invv2, e_call3, e_callv3, e_inv3, e_invv3, e_call4, e_callv4, e_inv4, e_invv4, e_call5, e_callv5, e_inv5, e_invv5, e_call6, e_callv6, e_inv6, e_invv6, e_call7, e_callv7, e_inv7, e_invv7, e_call8, e_callv8, e_inv8, e_invv8, e_ret, e_retz, e_retc, e_retb, e_retv, e_skip, e_sco, e_tlen, e_tat, e_iz_eq0, e_iz_eq1, e_iz_ne0, e_iz_ne1, add0, sc_d, sc_t, inI_e, inL_e, up_eq, true_or, or_true, or_false, false_or, and_true, true_and, not_false_eq_true, Int.reduceAdd, Int.reduceSub, Int.reduceMul, Int.reduceNeg]
      | with_reducible first | refine izl_lt (fun hc => ?_) (fun hc => ?_) | refine izl_ge (fun hc => ?_) (fun hc => ?_) | refine izl_eq (fun hc => ?_) (fun hc => ?_) | refine ic_ge (fun hc => ?_) (fun hc => ?_) | refine ic_lt (fun hc => ?_) (fun hc => ?_) | refine ic_ne (fun hc => ?_) (fun hc => ?_) | refine ic_eq (fun hc => ?_) (fun hc => ?_) | refine ic_le (fun hc => ?_) (fun hc => ?_) | refine ic_gt (fun hc => ?_) (fun hc => ?_) | refine iz_eq (fun hc => ?_) (fun hc => ?_) | refine iz_ne (fun hc => ?_) (fun hc => ?_) | refine iz_lt (fun hc => ?_) (fun hc => ?_) | refine iz_ge (fun hc => ?_) (fun hc => ?_) | refine iz_gt (fun hc => ?_) (fun hc => ?_) | refine iz_le (fun hc => ?_) (fun hc => ?_) | refine iz_nu (fun hc => ?_) (fun hc => ?_) | refine iz_nn (fun hc => ?_) (fun hc => ?_)
      | omega
      | (exfalso; omega)
    all_goals exact h0 hfd
theorem cM_feed (hM0 : rfM m c C tp fd tr fa pl D k M n H HN L R F E) (hs : stW C tp fd tr D k M n H HN) (h1 : fd + 20 ≤ 900 → ∀ F' E' : Int → Int → Int, rfM m c C (fdT tp fd x0 x1 x2 x3 x4) (fd + 20) tr fa pl D k M n H HN L R F' E' → fM m R R F F' E E' → Q (fd + 20) (L, R, F', E', N)) (h0 : ¬ fd + 20 ≤ 900 → Q (-1) (L, R, up F m 0 0, E, N)) : T_X10_feed [m, x0, x1, x2, x3, x4] (L, R, F, E, N) Q := by
  have pm := mt_p (rx_t hM0)
  have hW := sw_w hs
  have bn := sw_n hs
  have bk := sw_k hs
  have bf := sw_f hs
  have b0 := cw_0 hW
  have b1 := cw_1 hW
  have b2 := cw_2 hW
  have b3 := cw_3 hW
  have b4 := cw_4 hW
  have hM := hM0.fq hs (F' := up F m 0 0) (E' := E) (fun b j z => up_ne (by omega)) (fun _ _ _ _ _ => rfl)
  have hqz : qN m F (up F m 0 0) E E := qN.z
  simp (disch := omega) only [t_X10_feed, ue_X10_feed, zLg, zRf, zFq, zEl, zNz, zUf, zUe, zUr, zCe, zSn, gd_0, gd_1, gd_2, gd_3, gd_4, gd_5, gd_6, gd_7, gd_8, gd_9, gd_10, gd_11, gd_12, gd_13, gd_14, gd_15, gd_16, gd_17, gd_18, gd_19, se_0, se_1, se_2, se_3, se_4, se_5, se_6, se_7, se_8, se_9, se_10, se_11, se_12, se_13, se_14, se_15, se_16, se_17, se_18, se_19, e_const, e_load, e_store, e_iinc, e_dup, e_dup2, e_pop, e_iadd, e_isub, e_imul, e_ladd, e_lsub, e_lmul, e_iaddw, e_isubw, e_imulw, e_laddw, e_lsubw, e_lmulw, e_iand, e_ior, e_ishl, e_ishr, e_iushr, e_lcmp, e_imax, e_imin, e_idiv, e_irem, e_ldiv, e_lrem, e_i2l, e_i2b, e_l2i, e_i2c, e_getF, e_getR, e_putF, e_putR, e_putz, e_ald, e_aldR, e_ast, e_astb, e_astz, e_asta, e_len, e_acopy, e_new, e_newa, e_mna, e_this, e_room, e_call0, e_callv0, e_call1, e_callv1, e_inv1, e_invv1, e_call2, e_callv2, e_inv2, e_invv2, e_call3, e_callv3, e_inv3, e_invv3, e_call4, e_callv4, e_inv4, e_invv4, e_call5, e_callv5, e_inv5, e_invv5, e_call6, e_callv6, e_inv6, e_invv6, e_call7, e_callv7, e_inv7, e_invv7, e_call8, e_callv8, e_inv8, e_invv8, e_ret, e_retz, e_retc, e_retb, e_retv, e_skip, e_sco, e_tlen, e_tat, e_iz_eq0, e_iz_eq1, e_iz_ne0, e_iz_ne1, add0, sc_d, sc_t, inI_e, inL_e, up_eq, true_or, or_true, or_false, false_or, and_true, true_and, not_false_eq_true, Int.reduceAdd, Int.reduceSub, Int.reduceMul, Int.reduceNeg]
  generalize up F m 0 0 = F1 at *
  have hS := rx_st hM
  have hTm := rx_t hM
  have r5 := mt_5 hTm
  have l1 := mt_l1 hTm
  have e6 := rx_6 hM
  by_cases hfd : fd + 20 ≤ 900
  · have hf : True := trivial
    repeat' first
      | exact absurd hc (by decide)
      | simp (disch := omega) only [zLg, zRf, zFq, zEl, zNz, zUf, zUe, zUr, zCe, zSn, gd_0, gd_1, gd_2, gd_3, gd_4, gd_5, gd_6, gd_7, gd_8, gd_9, gd_10, gd_11, gd_12, gd_13, gd_14, gd_15, gd_16, gd_17, gd_18, gd_19, se_0, se_1, se_2, se_3, se_4, se_5, se_6, se_7, se_8, se_9, se_10, se_11, se_12, se_13, se_14, se_15, se_16, se_17, se_18, se_19, e_const, e_load, e_store, e_iinc, e_dup, e_dup2, e_pop, e_iadd, e_isub, e_imul, e_ladd, e_lsub, e_lmul, e_iaddw, e_isubw, e_imulw, e_laddw, e_lsubw, e_lmulw, e_iand, e_ior, e_ishl, e_ishr, e_iushr, e_lcmp, e_imax, e_imin, e_idiv, e_irem, e_ldiv, e_lrem, e_i2l, e_i2b, e_l2i, e_i2c, e_getF, e_getR, e_putF, e_putR, e_putz, e_ald, e_aldR, e_ast, e_astb, e_astz, e_asta, e_len, e_acopy, e_new, e_newa, e_mna, e_this, e_room, e_call0, e_callv0, e_call1, e_callv1, e_inv1, e_invv1, e_call2, e_callv2, e_inv2, e_invv2, e_call3, e_callv3, e_inv3, e_invv3, e_call4, e_callv4, e_inv4, e_invv4, e_call5, e_callv5, e_inv5, e_invv5, e_call6, e_callv6, e_inv6, e_invv6, e_call7, e_callv7, e_inv7, e_invv7, e_call8, e_callv8, e_inv8, e_invv8, e_ret, e_retz, e_retc, e_retb, e_retv, e_skip, e_sco, e_tlen, e_tat, e_iz_eq0, e_iz_eq1, e_iz_ne0, e_iz_ne1, add0, sc_d, sc_t, inI_e, inL_e, up_eq, true_or, or_true, or_false, false_or, and_true, true_and, not_false_eq_true, Int.reduceAdd, Int.reduceSub, Int.reduceMul, Int.reduceNeg, e6]
      | with_reducible first | refine izl_lt (fun hc => ?_) (fun hc => ?_) | refine izl_ge (fun hc => ?_) (fun hc => ?_) | refine izl_eq (fun hc => ?_) (fun hc => ?_) | refine ic_ge (fun hc => ?_) (fun hc => ?_) | refine ic_lt (fun hc => ?_) (fun hc => ?_) | refine ic_ne (fun hc => ?_) (fun hc => ?_) | refine ic_eq (fun hc => ?_) (fun hc => ?_) | refine ic_le (fun hc => ?_) (fun hc => ?_) | refine ic_gt (fun hc => ?_) (fun hc => ?_) | refine iz_eq (fun hc => ?_) (fun hc => ?_) | refine iz_ne (fun hc => ?_) (fun hc => ?_) | refine iz_lt (fun hc => ?_) (fun hc => ?_) | refine iz_ge (fun hc => ?_) (fun hc => ?_) | refine iz_gt (fun hc => ?_) (fun hc => ?_) | refine iz_le (fun hc => ?_) (fun hc => ?_) | refine iz_nu (fun hc => ?_) (fun hc => ?_) | refine iz_nn (fun hc => ?_) (fun hc => ?_)
      | omega
      | (exfalso; omega)
    unfold L_X10_feed_23
    refine lpw (fun nn lo st h c s => ∃ (i y : Int) (F' E' : Int → Int → Int), lo = [m, x0, x1, x2, x3, x4, i, y] ∧ st = [] ∧ h = (L, R, F', E', N) ∧ 0 ≤ i ∧ i ≤ 20 ∧ (nn : Int) = 20 - i ∧ F' m 6 = fd + i ∧ (∀ b j : Int, (b ≠ m ∨ j ≠ 6) → F' b j = F1 b j) ∧ (∀ b j : Int, (b ≠ m + 1 ∨ j < fd) → E' b j = E b j) ∧ (∀ q : Int, 0 ≤ q → q < i → E' (m + 1) (fd + q) = wB (fdT tp fd x0 x1 x2 x3 x4 (fd + q)))) ?_ (n := 20) ⟨0, 0, F1, E, rfl, rfl, rfl, by omega, by omega, by omega, by omega, fun _ _ _ => rfl, fun _ _ _ => rfl, fun q u w => by omega⟩
    rintro nn kk hkk lo st h c9 s9 ⟨i, y, F2, E2, rfl, rfl, rfl, hi, hi2, hn1, hf1, hF, hE, hq⟩
    by_cases hlt : i < 20
    · have fin : ∀ v : Int, v = fdx x0 x1 x2 x3 x4 (i / 4) → B_X10_feed_76 Q kk [m, x0, x1, x2, x3, x4, i, y] [v] (L, R, F2, E2, N) c9 s9 := by
        intro v hv
        have em : Int.tmod i 4 = i % 4 := Int.tmod_eq_emod_of_nonneg hi
        have e24 : 24 - 8 * (i % 4) = 24 - 8 * (i % 4) := rfl
        simp (disch := omega) only [ub_X10_feed_76, zLg, zRf, zFq, zEl, zNz, zUf, zUe, zUr, zCe, zSn, gd_0, gd_1, gd_2, gd_3, gd_4, gd_5, gd_6, gd_7, gd_8, gd_9, gd_10, gd_11, gd_12, gd_13, gd_14, gd_15, gd_16, gd_17, gd_18, gd_19, se_0, se_1, se_2, se_3, se_4, se_5, se_6, se_7, se_8, se_9, se_10, se_11, se_12, se_13, se_14, se_15, se_16, se_17, se_18, se_19, e_const, e_load, e_store, e_iinc, e_dup, e_dup2, e_pop, e_iadd, e_isub, e_imul, e_ladd, e_lsub, e_lmul, e_iaddw, e_isubw, e_imulw, e_laddw, e_lsubw, e_lmulw, e_iand, e_ior, e_ishl, e_ishr, e_iushr, e_lcmp, e_imax, e_imin, e_idiv, e_irem, e_ldiv, e_lrem, e_i2l, e_i2b, e_l2i, e_i2c, e_getF, e_getR, e_putF, e_putR, e_putz, e_ald, e_aldR, e_ast, e_astb, e_astz, e_asta, e_len, e_acopy, e_new, e_newa, e_mna, e_this, e_room, e_call0, e_callv0, e_call1, e_callv1, e_inv1, e_invv1, e_call2, e_callv2, e_inv2, e_invv2, e_call3, e_callv3, e_inv3, e_invv3, e_call4, e_callv4, e_inv4, e_invv4, e_call5, e_callv5, e_inv5, e_invv5, e_call6, e_callv6, e_inv6, e_invv6, e_call7, e_callv7, e_inv7, e_invv7, e_call8, e_callv8, e_inv8, e_invv8, e_ret, e_retz, e_retc, e_retb, e_retv, e_skip, e_sco, e_tlen, e_tat, e_iz_eq0, e_iz_eq1, e_iz_ne0, e_iz_ne1, add0, sc_d, sc_t, inI_e, inL_e, up_eq, true_or, or_true, or_false, false_or, and_true, true_and, not_false_eq_true, Int.reduceAdd, Int.reduceSub, Int.reduceMul, Int.reduceNeg, hf1, r5, l1, em]
        refine hkk (nn - 1) _ _ _ _ _ (by omega) ⟨i + 1, _, _, _, rfl, rfl, rfl, by omega, by omega, by omega, by rw [up_eq]; omega, fun b j z => (up_ne (by omega)).trans (hF b j z), fun b j z => (up_ne (by omega)).trans (hE b j z), fun q u w => ?_⟩
        by_cases z : q = i
        · subst z
          rw [up_eq, wB_wB, byt_w _ _ (by omega) (by omega), hv]
          have := fdT_in (tp := tp) (fd := fd) (x0 := x0) (x1 := x1) (x2 := x2) (x3 := x3) (x4 := x4) (q := q / 4) (r := q % 4) (by omega) (by omega) (by omega) (by omega)
          rw [show fd + 4 * (q / 4) + q % 4 = fd + q by omega] at this
          rw [this]
        · rw [up_ne (by omega)]
          exact hq q u (by omega)
      repeat' first
        | exact absurd hc (by decide)
        | simp (disch := omega) only [zLg, zRf, zFq, zEl, zNz, zUf, zUe, zUr, zCe, zSn, gd_0, gd_1, gd_2, gd_3, gd_4, gd_5, gd_6, gd_7, gd_8, gd_9, gd_10, gd_11, gd_12, gd_13, gd_14, gd_15, gd_16, gd_17, gd_18, gd_19, se_0, se_1, se_2, se_3, se_4, se_5, se_6, se_7, se_8, se_9, se_10, se_11, se_12, se_13, se_14, se_15, se_16, se_17, se_18, se_19, e_const, e_load, e_store, e_iinc, e_dup, e_dup2, e_pop, e_iadd, e_isub, e_imul, e_ladd, e_lsub, e_lmul, e_iaddw, e_isubw, e_imulw, e_laddw, e_lsubw, e_lmulw, e_iand, e_ior, e_ishl, e_ishr, e_iushr, e_lcmp, e_imax, e_imin, e_idiv, e_irem, e_ldiv, e_lrem, e_i2l, e_i2b, e_l2i, e_i2c, e_getF, e_getR, e_putF, e_putR, e_putz, e_ald, e_aldR, e_ast, e_astb, e_astz, e_asta, e_len, e_acopy, e_new, e_newa, e_mna, e_this, e_room, e_call0, e_callv0, e_call1, e_callv1, e_inv1, e_invv1, e_call2, e_callv2, e_inv2, e_invv2, e_call3, e_callv3, e_inv3, e_invv3, e_call4, e_callv4, e_inv4, e_invv4, e_call5, e_callv5, e_inv5, e_invv5, e_call6, e_callv6, e_inv6, e_invv6, e_call7, e_callv7, e_inv7, e_invv7, e_call8, e_callv8, e_inv8, e_invv8, e_ret, e_retz, e_retc, e_retb, e_retv, e_skip, e_sco, e_tlen, e_tat, e_iz_eq0, e_iz_eq1, e_iz_ne0, e_iz_ne1, add0, sc_d, sc_t, inI_e, inL_e, up_eq, true_or, or_true, or_false, false_or, and_true, true_and, not_false_eq_true, Int.reduceAdd, Int.reduceSub, Int.reduceMul, Int.reduceNeg]
        | with_reducible first | refine izl_lt (fun hc => ?_) (fun hc => ?_) | refine izl_ge (fun hc => ?_) (fun hc => ?_) | refine izl_eq (fun hc => ?_) (fun hc => ?_) | refine ic_ge (fun hc => ?_) (fun hc => ?_) | refine ic_lt (fun hc => ?_) (fun hc => ?_) | refine ic_ne (fun hc => ?_) (fun hc => ?_) | refine ic_eq (fun hc => ?_) (fun hc => ?_) | refine ic_le (fun hc => ?_) (fun hc => ?_) | refine ic_gt (fun hc => ?_) (fun hc => ?_) | refine iz_eq (fun hc => ?_) (fun hc => ?_) | refine iz_ne (fun hc => ?_) (fun hc => ?_) | refine iz_lt (fun hc => ?_) (fun hc => ?_) | refine iz_ge (fun hc => ?_) (fun hc => ?_) | refine iz_gt (fun hc => ?_) (fun hc => ?_) | refine iz_le (fun hc => ?_) (fun hc => ?_) | refine iz_nu (fun hc => ?_) (fun hc => ?_) | refine iz_nn (fun hc => ?_) (fun hc => ?_)
        | omega
        | (exfalso; omega)
      all_goals
        refine fin _ ?_
        simp (disch := omega) only [fdx, if_pos, if_neg]
    · have hie : i = 20 := by omega
      subst hie
      have qF : ∀ b j : Int, (b ≠ m ∨ j ≠ 6) → F2 b j = F1 b j := hF
      have qE : ∀ b j : Int, (b ≠ m + 1 ∨ j < fd) → E2 b j = E b j := hE
      have e1 := hf1
      repeat' first
        | exact absurd hc (by decide)
        | simp (disch := omega) only [zLg, zRf, zFq, zEl, zNz, zUf, zUe, zUr, zCe, zSn, gd_0, gd_1, gd_2, gd_3, gd_4, gd_5, gd_6, gd_7, gd_8, gd_9, gd_10, gd_11, gd_12, gd_13, gd_14, gd_15, gd_16, gd_17, gd_18, gd_19, se_0, se_1, se_2, se_3, se_4, se_5, se_6, se_7, se_8, se_9, se_10, se_11, se_12, se_13, se_14, se_15, se_16, se_17, se_18, se_19, e_const, e_load, e_store, e_iinc, e_dup, e_dup2, e_pop, e_iadd, e_isub, e_imul, e_ladd, e_lsub, e_lmul, e_iaddw, e_isubw, e_imulw, e_laddw, e_lsubw, e_lmulw, e_iand, e_ior, e_ishl, e_ishr, e_iushr, e_lcmp, e_imax, e_imin, e_idiv, e_irem, e_ldiv, e_lrem, e_i2l, e_i2b, e_l2i, e_i2c, e_getF, e_getR, e_putF, e_putR, e_putz, e_ald, e_aldR, e_ast, e_astb, e_astz, e_asta, e_len, e_acopy, e_new, e_newa, e_mna, e_this, e_room, e_call0, e_callv0, e_call1, e_callv1, e_inv1, e_invv1, e_call2, e_callv2, e_inv2, e_invv2, e_call3, e_callv3, e_inv3, e_invv3, e_call4, e_callv4, e_inv4, e_invv4, e_call5, e_callv5, e_inv5, e_invv5, e_call6, e_callv6, e_inv6, e_invv6, e_call7, e_callv7, e_inv7, e_invv7, e_call8, e_callv8, e_inv8, e_invv8, e_ret, e_retz, e_retc, e_retb, e_retv, e_skip, e_sco, e_tlen, e_tat, e_iz_eq0, e_iz_eq1, e_iz_ne0, e_iz_ne1, add0, sc_d, sc_t, inI_e, inL_e, up_eq, true_or, or_true, or_false, false_or, and_true, true_and, not_false_eq_true, Int.reduceAdd, Int.reduceSub, Int.reduceMul, Int.reduceNeg, e1]
        | with_reducible first | refine izl_lt (fun hc => ?_) (fun hc => ?_) | refine izl_ge (fun hc => ?_) (fun hc => ?_) | refine izl_eq (fun hc => ?_) (fun hc => ?_) | refine ic_ge (fun hc => ?_) (fun hc => ?_) | refine ic_lt (fun hc => ?_) (fun hc => ?_) | refine ic_ne (fun hc => ?_) (fun hc => ?_) | refine ic_eq (fun hc => ?_) (fun hc => ?_) | refine ic_le (fun hc => ?_) (fun hc => ?_) | refine ic_gt (fun hc => ?_) (fun hc => ?_) | refine iz_eq (fun hc => ?_) (fun hc => ?_) | refine iz_ne (fun hc => ?_) (fun hc => ?_) | refine iz_lt (fun hc => ?_) (fun hc => ?_) | refine iz_ge (fun hc => ?_) (fun hc => ?_) | refine iz_gt (fun hc => ?_) (fun hc => ?_) | refine iz_le (fun hc => ?_) (fun hc => ?_) | refine iz_nu (fun hc => ?_) (fun hc => ?_) | refine iz_nn (fun hc => ?_) (fun hc => ?_)
        | omega
        | (exfalso; omega)
      refine h1 hfd F2 E2 ⟨rx_t hM, e1, fun i u v => ?_, (qF _ _ (by omega)).trans (rx_13 hM), (qF _ _ (by omega)).trans (rx_1 hM), (qF _ _ (by omega)).trans (rx_2 hM), rxC hM (fun b j z => qF b j (by omega)) (fun b j z => qE b j (by omega)), (qF _ _ (by omega)).trans (rx_39 hM), fun i u v => (rx_k hM i u v).fa (fun j => qE _ _ (by omega)), (rx_a hM).fa (qF _ _ (by omega)) (fun b j z => qE b j (by omega))⟩ (fun b j z => ⟨rfl, (qF b j (by omega)).trans (hqz.1 b j (by omega)), qE b j (by omega)⟩)
      by_cases hi : i < fd
      · rw [fdT_out hi, qE _ _ (by omega)]
        exact rx_tp hM i u hi
      · have := hq (i - fd) (by omega) (by omega)
        rw [show fd + (i - fd) = i by omega] at this
        exact this
  · have hf : True := trivial
    repeat' first
      | exact absurd hc (by decide)
      | simp (disch := omega) only [zLg, zRf, zFq, zEl, zNz, zUf, zUe, zUr, zCe, zSn, gd_0, gd_1, gd_2, gd_3, gd_4, gd_5, gd_6, gd_7, gd_8, gd_9, gd_10, gd_11, gd_12, gd_13, gd_14, gd_15, gd_16, gd_17, gd_18, gd_19, se_0, se_1, se_2, se_3, se_4, se_5, se_6, se_7, se_8, se_9, se_10, se_11, se_12, se_13, se_14, se_15, se_16, se_17, se_18, se_19, e_const, e_load, e_store, e_iinc, e_dup, e_dup2, e_pop, e_iadd, e_isub, e_imul, e_ladd, e_lsub, e_lmul, e_iaddw, e_isubw, e_imulw, e_laddw, e_lsubw, e_lmulw, e_iand, e_ior, e_ishl, e_ishr, e_iushr, e_lcmp, e_imax, e_imin, e_idiv, e_irem, e_ldiv, e_lrem, e_i2l, e_i2b, e_l2i, e_i2c, e_getF, e_getR, e_putF, e_putR, e_putz, e_ald, e_aldR, e_ast, e_astb, e_astz, e_asta, e_len, e_acopy, e_new, e_newa, e_mna, e_this, e_room, e_call0, e_callv0, e_call1, e_callv1, e_inv1, e_invv1, e_call2, e_callv2, e_inv2, e_invv2, e_call3, e_callv3, e_inv3, e_invv3, e_call4, e_callv4, e_inv4, e_invv4, e_call5, e_callv5, e_inv5, e_invv5, e_call6, e_callv6, e_inv6, e_invv6, e_call7, e_callv7, e_inv7, e_invv7, e_call8, e_callv8, e_inv8, e_invv8, e_ret, e_retz, e_retc, e_retb, e_retv, e_skip, e_sco, e_tlen, e_tat, e_iz_eq0, e_iz_eq1, e_iz_ne0, e_iz_ne1, add0, sc_d, sc_t, inI_e, inL_e, up_eq, true_or, or_true, or_false, false_or, and_true, true_and, not_false_eq_true, Int.reduceAdd, Int.reduceSub, Int.reduceMul, Int.reduceNeg, e6]
      | with_reducible first | refine izl_lt (fun hc => ?_) (fun hc => ?_) | refine izl_ge (fun hc => ?_) (fun hc => ?_) | refine izl_eq (fun hc => ?_) (fun hc => ?_) | refine ic_ge (fun hc => ?_) (fun hc => ?_) | refine ic_lt (fun hc => ?_) (fun hc => ?_) | refine ic_ne (fun hc => ?_) (fun hc => ?_) | refine ic_eq (fun hc => ?_) (fun hc => ?_) | refine ic_le (fun hc => ?_) (fun hc => ?_) | refine ic_gt (fun hc => ?_) (fun hc => ?_) | refine iz_eq (fun hc => ?_) (fun hc => ?_) | refine iz_ne (fun hc => ?_) (fun hc => ?_) | refine iz_lt (fun hc => ?_) (fun hc => ?_) | refine iz_ge (fun hc => ?_) (fun hc => ?_) | refine iz_gt (fun hc => ?_) (fun hc => ?_) | refine iz_le (fun hc => ?_) (fun hc => ?_) | refine iz_nu (fun hc => ?_) (fun hc => ?_) | refine iz_nn (fun hc => ?_) (fun hc => ?_)
      | omega
      | (exfalso; omega)
    all_goals exact h0 hfd
end FEED

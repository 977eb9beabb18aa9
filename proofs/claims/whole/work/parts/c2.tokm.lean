/-! ===== the reference's tokens ===== -/
theorem bAnd_wB {x : Int} (h0 : 0 ≤ x) (h1 : x ≤ 255) : bAnd (wB x) 255 = x := by
  have key : ∀ c : Nat, c < 16 → ∀ k : Nat, k < 16 → bAnd (wB ((16 * c + k : Nat) : Int)) 255 = ((16 * c + k : Nat) : Int) := by decide
  have := key (x.toNat / 16) (by omega) (x.toNat % 16) (by omega)
  rw [show ((16 * (x.toNat / 16) + x.toNat % 16 : Nat) : Int) = x by omega] at this
  exact this
def bt (tp : Int → Int) (n k : Int) : Int := if k < n then tp k else -1
def srt (k : Int) : Int := if k = 5 then 0 else if k = 4 then 4 else k + 1
def alM (m : Int) (tp : Int → Int) (n j : Int) (F : Int → Int → Int) : Prop := (F m 7 = n) ∧ (F m 10 = j) ∧ (F m 9 = srt (kdt tp n j)) ∧ (kdt tp n j ≠ 0 → kdt tp n j ≠ 5 → F m 8 = nxt tp n j) ∧ (kdt tp n j = 1 → F m 15 = wdt tp n j) ∧ (kdt tp n j = 2 → F m 12 = nmt tp n j) ∧ (F m 11 = (if kdt tp n j = 3 then 59 else if kdt tp n j = 4 then 44 else 0)) ∧ (0 ≤ j ∧ j ≤ n) ∧ (F m 13 = 0)
theorem al_7 {m : Int} {tp : Int → Int} {n j : Int} {F : Int → Int → Int} (h : alM m tp n j F) : F m 7 = n := h.1
theorem al_10 {m : Int} {tp : Int → Int} {n j : Int} {F : Int → Int → Int} (h : alM m tp n j F) : F m 10 = j := h.2.1
theorem al_9 {m : Int} {tp : Int → Int} {n j : Int} {F : Int → Int → Int} (h : alM m tp n j F) : F m 9 = srt (kdt tp n j) := h.2.2.1
theorem al_8 {m : Int} {tp : Int → Int} {n j : Int} {F : Int → Int → Int} (h : alM m tp n j F) : kdt tp n j ≠ 0 → kdt tp n j ≠ 5 → F m 8 = nxt tp n j := h.2.2.2.1
theorem al_15 {m : Int} {tp : Int → Int} {n j : Int} {F : Int → Int → Int} (h : alM m tp n j F) : kdt tp n j = 1 → F m 15 = wdt tp n j := h.2.2.2.2.1
theorem al_12 {m : Int} {tp : Int → Int} {n j : Int} {F : Int → Int → Int} (h : alM m tp n j F) : kdt tp n j = 2 → F m 12 = nmt tp n j := h.2.2.2.2.2.1
theorem al_11 {m : Int} {tp : Int → Int} {n j : Int} {F : Int → Int → Int} (h : alM m tp n j F) : F m 11 = (if kdt tp n j = 3 then 59 else if kdt tp n j = 4 then 44 else 0) := h.2.2.2.2.2.2.1
theorem al_b {m : Int} {tp : Int → Int} {n j : Int} {F : Int → Int → Int} (h : alM m tp n j F) : 0 ≤ j ∧ j ≤ n := h.2.2.2.2.2.2.2.1
theorem al_13 {m : Int} {tp : Int → Int} {n j : Int} {F : Int → Int → Int} (h : alM m tp n j F) : F m 13 = 0 := h.2.2.2.2.2.2.2.2
def mkX (m : Int) (F F' : Int → Int → Int) : Prop := ∀ b j : Int, (b ≠ m ∨ j < 8 ∨ 15 < j) → F' b j = F b j
theorem mkX.s {m : Int} {F : Int → Int → Int} : mkX m F F := fun _ _ _ => rfl
theorem mkX.t {m : Int} {F F' F'' : Int → Int → Int} (h : mkX m F F') (h' : mkX m F' F'') : mkX m F F'' := fun b j z => (h' b j z).trans (h b j z)
section TOKM
variable {L : Int → Int} {R F F' E E' : Int → Int → Int} {N : Nat} {Q : xQ} {m n i j s p a c k v x y : Int} {C : Cy} {tp : Int → Int} {c9 s9 : Nat}
theorem sM_byteAt (hT : mtT m L R) (n9 : n ≤ 900) (ht : ∀ i : Int, 0 ≤ i → i < n → E (m + 1) i = wB (tp i)) (hb : ∀ i : Int, 0 ≤ i → i < n → 0 ≤ tp i ∧ tp i ≤ 255) (h7 : F m 7 = n) (k0 : 0 ≤ k) (hQ : Q (bt tp n k) (L, R, F, E, N)) : T_X10_byteAt [m, k] (L, R, F, E, N) Q := by
  have pm := mt_p hT
  have m5 := mt_5 hT
  have ml := mt_l1 hT
  unfold bt at hQ
  by_cases kn : k < n
  · rw [if_pos kn] at hQ
    have ek := ht k k0 kn
    have eb := bAnd_wB (hb k k0 kn).1 (hb k k0 kn).2
    clear ht hb
    repeat' first
      | exact absurd hc (by decide)
      | simp (disch := omega) only [ub_X10_byteAt_22, ue_X10_byteAt, t_X10_byteAt, zLg, zRf, zFq, zEl, zNz, zUf, zUe, zUr, zCe, zSn, gd_0, gd_1, gd_2, gd_3, gd_4, gd_5, gd_6, gd_7, gd_8, gd_9, gd_10, gd_11, gd_12, gd_13, gd_14, gd_15, gd_16, gd_17, gd_18, gd_19, se_0, se_1, se_2, se_3, se_4, se_5, se_6, se_7, se_8, se_9, se_10, se_11, se_12, se_13, se_14, se_15, se_16, se_17, se_18, se_19, e_const, e_load, e_store, e_iinc, e_dup, e_dup2, e_pop, e_iadd, e_isub, e_imul, e_ladd, e_lsub, e_lmul, e_iaddw, e_isubw, e_imulw, e_laddw, e_lsubw, e_lmulw, e_iand, e_ior, e_ishl, e_ishr, e_iushr, e_lcmp, e_imax, e_imin, e_idiv, e_irem, e_ldiv, e_lrem, e_i2l, e_i2b, e_l2i, e_i2c, e_getF, e_getR, e_putF, e_putR, e_putz, e_ald, e_aldR, e_ast, e_astb, e_astz, e_asta, e_len, e_acopy, e_new, e_newa, e_mna, e_this, e_room, e_call0, e_callv0, e_call1, e_callv1, e_inv1, e_invv1, e_call2, e_callv2, e_inv2, e_invv2, e_call3, e_callv3, e_inv3, e_invv3, e_call4, e_callv4, e_inv4, e_invv4, e_call5, e_callv5, e_inv5, e_invv5, e_call6, e_callv6, e_inv6, e_invv6, e_call7, e_callv7, e_inv7, e_invv7, e_call8, e_callv8, e_inv8, e_invv8, e_ret, e_retz, e_retc, e_retb, e_retv, e_skip, e_sco, e_tlen, e_tat, e_iz_eq0, e_iz_eq1, e_iz_ne0, e_iz_ne1, add0, sc_d, sc_t, inI_e, inL_e, up_eq, true_or, or_true, or_false, false_or, and_true, true_and, not_false_eq_true, Int.reduceAdd, Int.reduceSub, Int.reduceMul, Int.reduceNeg, h7, m5, ml, ek, eb]
      | with_reducible first | refine izl_lt (fun hc => ?_) (fun hc => ?_) | refine izl_ge (fun hc => ?_) (fun hc => ?_) | refine izl_eq (fun hc => ?_) (fun hc => ?_) | refine ic_ge (fun hc => ?_) (fun hc => ?_) | refine ic_lt (fun hc => ?_) (fun hc => ?_) | refine ic_ne (fun hc => ?_) (fun hc => ?_) | refine ic_eq (fun hc => ?_) (fun hc => ?_) | refine ic_le (fun hc => ?_) (fun hc => ?_) | refine ic_gt (fun hc => ?_) (fun hc => ?_) | refine iz_eq (fun hc => ?_) (fun hc => ?_) | refine iz_ne (fun hc => ?_) (fun hc => ?_) | refine iz_lt (fun hc => ?_) (fun hc => ?_) | refine iz_ge (fun hc => ?_) (fun hc => ?_) | refine iz_gt (fun hc => ?_) (fun hc => ?_) | refine iz_le (fun hc => ?_) (fun hc => ?_) | refine iz_nu (fun hc => ?_) (fun hc => ?_) | refine iz_nn (fun hc => ?_) (fun hc => ?_)
      | omega
      | (exfalso; omega)
    all_goals exact hQ
  · rw [if_neg kn] at hQ
    clear ht hb
    repeat' first
      | exact absurd hc (by decide)
      | simp (disch := omega) only [ub_X10_byteAt_22, ue_X10_byteAt, t_X10_byteAt, zLg, zRf, zFq, zEl, zNz, zUf, zUe, zUr, zCe, zSn, gd_0, gd_1, gd_2, gd_3, gd_4, gd_5, gd_6, gd_7, gd_8, gd_9, gd_10, gd_11, gd_12, gd_13, gd_14, gd_15, gd_16, gd_17, gd_18, gd_19, se_0, se_1, se_2, se_3, se_4, se_5, se_6, se_7, se_8, se_9, se_10, se_11, se_12, se_13, se_14, se_15, se_16, se_17, se_18, se_19, e_const, e_load, e_store, e_iinc, e_dup, e_dup2, e_pop, e_iadd, e_isub, e_imul, e_ladd, e_lsub, e_lmul, e_iaddw, e_isubw, e_imulw, e_laddw, e_lsubw, e_lmulw, e_iand, e_ior, e_ishl, e_ishr, e_iushr, e_lcmp, e_imax, e_imin, e_idiv, e_irem, e_ldiv, e_lrem, e_i2l, e_i2b, e_l2i, e_i2c, e_getF, e_getR, e_putF, e_putR, e_putz, e_ald, e_aldR, e_ast, e_astb, e_astz, e_asta, e_len, e_acopy, e_new, e_newa, e_mna, e_this, e_room, e_call0, e_callv0, e_call1, e_callv1, e_inv1, e_invv1, e_call2, e_callv2, e_inv2, e_invv2, e_call3, e_callv3, e_inv3, e_invv3, e_call4, e_callv4, e_inv4, e_invv4, e_call5, e_callv5, e_inv5, e_invv5, e_call6, e_callv6, e_inv6, e_invv6, e_call7, e_callv7, e_inv7, e_invv7, e_call8, e_callv8, e_inv8, e_invv8, e_ret, e_retz, e_retc, e_retb, e_retv, e_skip, e_sco, e_tlen, e_tat, e_iz_eq0, e_iz_eq1, e_iz_ne0, e_iz_ne1, add0, sc_d, sc_t, inI_e, inL_e, up_eq, true_or, or_true, or_false, false_or, and_true, true_and, not_false_eq_true, Int.reduceAdd, Int.reduceSub, Int.reduceMul, Int.reduceNeg, h7]
      | with_reducible first | refine izl_lt (fun hc => ?_) (fun hc => ?_) | refine izl_ge (fun hc => ?_) (fun hc => ?_) | refine izl_eq (fun hc => ?_) (fun hc => ?_) | refine ic_ge (fun hc => ?_) (fun hc => ?_) | refine ic_lt (fun hc => ?_) (fun hc => ?_) | refine ic_ne (fun hc => ?_) (fun hc => ?_) | refine ic_eq (fun hc => ?_) (fun hc => ?_) | refine ic_le (fun hc => ?_) (fun hc => ?_) | refine ic_gt (fun hc => ?_) (fun hc => ?_) | refine iz_eq (fun hc => ?_) (fun hc => ?_) | refine iz_ne (fun hc => ?_) (fun hc => ?_) | refine iz_lt (fun hc => ?_) (fun hc => ?_) | refine iz_ge (fun hc => ?_) (fun hc => ?_) | refine iz_gt (fun hc => ?_) (fun hc => ?_) | refine iz_le (fun hc => ?_) (fun hc => ?_) | refine iz_nu (fun hc => ?_) (fun hc => ?_) | refine iz_nn (fun hc => ?_) (fun hc => ?_)
      | omega
      | (exfalso; omega)
    all_goals exact hQ
theorem m178 (hT : mtT m L R) (n9 : n ≤ 900) (ht : ∀ i : Int, 0 ≤ i → i < n → E (m + 1) i = wB (tp i)) (hb : ∀ i : Int, 0 ≤ i → i < n → 0 ≤ tp i ∧ tp i ≤ 255) (j0 : 0 ≤ j) (jn : j < n) (h7 : F m 7 = n) (h8 : F m 8 = j) (h9 : F m 9 = 0) (h10 : F m 10 = j) (h11 : F m 11 = 0) (h12 : F m 12 = 0) (h13 : F m 13 = 0) (hd : 48 ≤ tp j ∧ tp j ≤ 57) (hQ : ∀ F' : Int → Int → Int, alM m tp n j F' → mkX m F F' → Q 0 (L, R, F', E, N)) : L_X10_goesOn_178 Q [m, x, 0] [] (L, R, F, E, N) c9 s9 := by
  have pm := mt_p hT
  have m5 := mt_5 hT
  have ml := mt_l1 hT
  unfold L_X10_goesOn_178
  refine lpw (fun nn lo st h c d => ∃ (y : Int) (F' : Int → Int → Int), lo = [m, x, y - j] ∧ st = [] ∧ h = (L, R, F', E, N) ∧ j ≤ y ∧ y ≤ n ∧ (nn : Int) = n - y ∧ F' m 8 = y ∧ (y - j ≤ 3 → F' m 12 = vl (fun q => tp (j + q)) (y - j).toNat) ∧ (∀ b i : Int, (b ≠ m ∨ (i ≠ 8 ∧ i ≠ 12)) → F' b i = F b i) ∧ run (isD tp) n y = run (isD tp) n j ∧ (∀ q : Int, j ≤ q → q < y → 48 ≤ tp q ∧ tp q ≤ 57)) ?_ (n := (n - j).toNat) ⟨j, F, by rw [Int.sub_self], rfl, rfl, by omega, by omega, by omega, h8, fun _ => by rw [h12, Int.sub_self]; rfl, fun b i z => rfl, rfl, fun q u v => by omega⟩
  rintro nn kk hkk lo st h c9 s9 ⟨y, F3, rfl, rfl, rfl, hy, hy2, hn1, k8, k12, hF3, hr3, hld⟩
  have k7 : F3 m 7 = n := (hF3 _ _ (by omega)).trans h7
  by_cases hdy : y < n ∧ 48 ≤ tp y ∧ tp y ≤ 57
  · have eb : bt tp n y = tp y := if_pos hdy.1
    have nx : ∀ F4 : Int → Int → Int, F4 m 8 = y + 1 → (y - j < 3 → F4 m 12 = 10 * vl (fun q => tp (j + q)) (y - j).toNat + tp y - 48) → (∀ b i : Int, (b ≠ m ∨ (i ≠ 8 ∧ i ≠ 12)) → F4 b i = F3 b i) → kk [m, x, y - j + 1] [] (L, R, F4, E, N) c9 s9 := fun F4 u1 u2 u3 => by
      refine hkk (nn - 1) _ _ _ _ _ (by omega) ⟨y + 1, F4, by rw [show y + 1 - j = y - j + 1 by omega], rfl, rfl, by omega, by omega, by omega, u1, fun z => ?_, fun b i z => (u3 b i z).trans (hF3 b i z), ?_, fun q u v => ?_⟩
      · rw [u2 (by omega), show (y + 1 - j).toNat = (y - j).toNat + 1 by omega, vl_s]
        show _ = 10 * _ + tp (j + ((y - j).toNat : Int)) - 48
        rw [show j + ((y - j).toNat : Int) = y by omega]
      · rw [← hr3, run_go hdy.1 (isD_t hdy.2)]
      · by_cases yy : q = y
        · rw [yy]; exact hdy.2
        · exact hld q u (by omega)
    by_cases y3 : y - j < 3
    · have vb := vl_c (f := fun q : Nat => tp (j + q)) (k := (y - j).toNat) (by omega) (fun q z => hld _ (by omega) (by omega))
      have e12 := k12 (by omega)
      have u8 : ∀ v : Int, up F3 m 12 v m 8 = y := fun v => (up_ne (by omega)).trans k8
      clear hkk hQ k12
      repeat' first
        | exact absurd hc (by decide)
        | with_reducible refine sM_byteAt hT n9 ht hb k7 ?_ ?_
        | simp (disch := omega) only [ub_X10_isDigit_17, ub_X10_isDigit_16, ue_X10_isDigit, t_X10_isDigit, ub_X10_goesOn_220, zLg, zRf, zFq, zEl, zNz, zUf, zUe, zUr, zCe, zSn, gd_0, gd_1, gd_2, gd_3, gd_4, gd_5, gd_6, gd_7, gd_8, gd_9, gd_10, gd_11, gd_12, gd_13, gd_14, gd_15, gd_16, gd_17, gd_18, gd_19, se_0, se_1, se_2, se_3, se_4, se_5, se_6, se_7, se_8, se_9, se_10, se_11, se_12, se_13, se_14, se_15, se_16, se_17, se_18, se_19, e_const, e_load, e_store, e_iinc, e_dup, e_dup2, e_pop, e_iadd, e_isub, e_imul, e_ladd, e_lsub, e_lmul, e_iaddw, e_isubw, e_imulw, e_laddw, e_lsubw, e_lmulw, e_iand, e_ior, e_ishl, e_ishr, e_iushr, e_lcmp, e_imax, e_imin, e_idiv, e_irem, e_ldiv, e_lrem, e_i2l, e_i2b, e_l2i, e_i2c, e_getF, e_getR, e_putF, e_putR, e_putz, e_ald, e_aldR, e_ast, e_astb, e_astz, e_asta, e_len, e_acopy, e_new, e_newa, e_mna, e_this, e_room, e_call0, e_callv0, e_call1, e_callv1, e_inv1, e_invv1, e_call2, e_callv2, e_inv2, e_invv2, e_call3, e_callv3, e_inv3, e_invv3, e_call4, e_callv4, e_inv4, e_invv4, e_call5, e_callv5, e_inv5, e_invv5, e_call6, e_callv6, e_inv6, e_invv6, e_call7, e_callv7, e_inv7, e_invv7, e_call8, e_callv8, e_inv8, e_invv8, e_ret, e_retz, e_retc, e_retb, e_retv, e_skip, e_sco, e_tlen, e_tat, e_iz_eq0, e_iz_eq1, e_iz_ne0, e_iz_ne1, add0, sc_d, sc_t, inI_e, inL_e, up_eq, true_or, or_true, or_false, false_or, and_true, true_and, not_false_eq_true, Int.reduceAdd, Int.reduceSub, Int.reduceMul, Int.reduceNeg, k8, eb, e12, u8]
        | with_reducible first | refine izl_lt (fun hc => ?_) (fun hc => ?_) | refine izl_ge (fun hc => ?_) (fun hc => ?_) | refine izl_eq (fun hc => ?_) (fun hc => ?_) | refine ic_ge (fun hc => ?_) (fun hc => ?_) | refine ic_lt (fun hc => ?_) (fun hc => ?_) | refine ic_ne (fun hc => ?_) (fun hc => ?_) | refine ic_eq (fun hc => ?_) (fun hc => ?_) | refine ic_le (fun hc => ?_) (fun hc => ?_) | refine ic_gt (fun hc => ?_) (fun hc => ?_) | refine iz_eq (fun hc => ?_) (fun hc => ?_) | refine iz_ne (fun hc => ?_) (fun hc => ?_) | refine iz_lt (fun hc => ?_) (fun hc => ?_) | refine iz_ge (fun hc => ?_) (fun hc => ?_) | refine iz_gt (fun hc => ?_) (fun hc => ?_) | refine iz_le (fun hc => ?_) (fun hc => ?_) | refine iz_nu (fun hc => ?_) (fun hc => ?_) | refine iz_nn (fun hc => ?_) (fun hc => ?_)
        | omega
        | (exfalso; omega)
      all_goals exact nx _ up_eq (fun _ => by rw [up_ne (by omega), up_eq]) (fun b i z => by rw [up_ne (by omega), up_ne (by omega)])
    · clear hkk hQ k12
      repeat' first
        | exact absurd hc (by decide)
        | with_reducible refine sM_byteAt hT n9 ht hb k7 ?_ ?_
        | simp (disch := omega) only [ub_X10_isDigit_17, ub_X10_isDigit_16, ue_X10_isDigit, t_X10_isDigit, ub_X10_goesOn_220, zLg, zRf, zFq, zEl, zNz, zUf, zUe, zUr, zCe, zSn, gd_0, gd_1, gd_2, gd_3, gd_4, gd_5, gd_6, gd_7, gd_8, gd_9, gd_10, gd_11, gd_12, gd_13, gd_14, gd_15, gd_16, gd_17, gd_18, gd_19, se_0, se_1, se_2, se_3, se_4, se_5, se_6, se_7, se_8, se_9, se_10, se_11, se_12, se_13, se_14, se_15, se_16, se_17, se_18, se_19, e_const, e_load, e_store, e_iinc, e_dup, e_dup2, e_pop, e_iadd, e_isub, e_imul, e_ladd, e_lsub, e_lmul, e_iaddw, e_isubw, e_imulw, e_laddw, e_lsubw, e_lmulw, e_iand, e_ior, e_ishl, e_ishr, e_iushr, e_lcmp, e_imax, e_imin, e_idiv, e_irem, e_ldiv, e_lrem, e_i2l, e_i2b, e_l2i, e_i2c, e_getF, e_getR, e_putF, e_putR, e_putz, e_ald, e_aldR, e_ast, e_astb, e_astz, e_asta, e_len, e_acopy, e_new, e_newa, e_mna, e_this, e_room, e_call0, e_callv0, e_call1, e_callv1, e_inv1, e_invv1, e_call2, e_callv2, e_inv2, e_invv2, e_call3, e_callv3, e_inv3, e_invv3, e_call4, e_callv4, e_inv4, e_invv4, e_call5, e_callv5, e_inv5, e_invv5, e_call6, e_callv6, e_inv6, e_invv6, e_call7, e_callv7, e_inv7, e_invv7, e_call8, e_callv8, e_inv8, e_invv8, e_ret, e_retz, e_retc, e_retb, e_retv, e_skip, e_sco, e_tlen, e_tat, e_iz_eq0, e_iz_eq1, e_iz_ne0, e_iz_ne1, add0, sc_d, sc_t, inI_e, inL_e, up_eq, true_or, or_true, or_false, false_or, and_true, true_and, not_false_eq_true, Int.reduceAdd, Int.reduceSub, Int.reduceMul, Int.reduceNeg, k8, eb]
        | with_reducible first | refine izl_lt (fun hc => ?_) (fun hc => ?_) | refine izl_ge (fun hc => ?_) (fun hc => ?_) | refine izl_eq (fun hc => ?_) (fun hc => ?_) | refine ic_ge (fun hc => ?_) (fun hc => ?_) | refine ic_lt (fun hc => ?_) (fun hc => ?_) | refine ic_ne (fun hc => ?_) (fun hc => ?_) | refine ic_eq (fun hc => ?_) (fun hc => ?_) | refine ic_le (fun hc => ?_) (fun hc => ?_) | refine ic_gt (fun hc => ?_) (fun hc => ?_) | refine iz_eq (fun hc => ?_) (fun hc => ?_) | refine iz_ne (fun hc => ?_) (fun hc => ?_) | refine iz_lt (fun hc => ?_) (fun hc => ?_) | refine iz_ge (fun hc => ?_) (fun hc => ?_) | refine iz_gt (fun hc => ?_) (fun hc => ?_) | refine iz_le (fun hc => ?_) (fun hc => ?_) | refine iz_nu (fun hc => ?_) (fun hc => ?_) | refine iz_nn (fun hc => ?_) (fun hc => ?_)
        | omega
        | (exfalso; omega)
      all_goals exact nx _ up_eq (fun z => by omega) (fun b i z => up_ne (by omega))
  · have hrd : run (isD tp) n j = y := by rw [← hr3, run_no (fun z => hdy ⟨z.1, isD_e z.2⟩)]
    have hnl : ¬ (97 ≤ tp j ∧ tp j ≤ 122) := by omega
    have hnx : nxt tp n j = y := by unfold nxt; rw [if_neg (by omega), if_pos ⟨jn, hd⟩, hrd]
    have hk : kdt tp n j = if y - j ≤ 3 then 2 else 5 := by unfold kdt; rw [if_neg (by omega), if_neg hnl, if_pos hd, hrd]
    have eb : bt tp n y < 48 ∨ 57 < bt tp n y := by
      unfold bt
      by_cases u : y < n
      · rw [if_pos u]; omega
      · rw [if_neg u]; omega
    have yj : j < y := by
      by_cases z : y = j
      · rw [z] at hdy; exact absurd ⟨jn, hd⟩ hdy
      · omega
    by_cases y3 : y - j ≤ 3
    · rw [if_pos y3] at hk
      have ok : Q 0 (L, R, up F3 m 9 3, E, N) := hQ _ ⟨(up_ne (by omega)).trans k7, (up_ne (by omega)).trans ((hF3 _ _ (by omega)).trans h10), by rw [up_eq, hk]; rfl, fun _ _ => (up_ne (by omega)).trans (k8.trans hnx.symm), fun z => by omega, fun _ => by rw [up_ne (by omega), k12 y3]; unfold nmt; rw [hnx], by rw [hk, if_neg (by decide), if_neg (by decide), up_ne (by omega), hF3 _ _ (by omega)]; exact h11, by omega, (up_ne (by omega)).trans ((hF3 _ _ (by omega)).trans h13)⟩ (fun b i z => (up_ne (by omega)).trans (hF3 b i (by omega)))
      clear hkk hQ k12 hk
      repeat' first
        | exact absurd hc (by decide)
        | with_reducible refine sM_byteAt hT n9 ht hb k7 ?_ ?_
        | simp (disch := omega) only [ub_X10_isDigit_17, ub_X10_isDigit_16, ue_X10_isDigit, t_X10_isDigit, ub_X10_goesOn_281, zLg, zRf, zFq, zEl, zNz, zUf, zUe, zUr, zCe, zSn, gd_0, gd_1, gd_2, gd_3, gd_4, gd_5, gd_6, gd_7, gd_8, gd_9, gd_10, gd_11, gd_12, gd_13, gd_14, gd_15, gd_16, gd_17, gd_18, gd_19, se_0, se_1, se_2, se_3, se_4, se_5, se_6, se_7, se_8, se_9, se_10, se_11, se_12, se_13, se_14, se_15, se_16, se_17, se_18, se_19, e_const, e_load, e_store, e_iinc, e_dup, e_dup2, e_pop, e_iadd, e_isub, e_imul, e_ladd, e_lsub, e_lmul, e_iaddw, e_isubw, e_imulw, e_laddw, e_lsubw, e_lmulw, e_iand, e_ior, e_ishl, e_ishr, e_iushr, e_lcmp, e_imax, e_imin, e_idiv, e_irem, e_ldiv, e_lrem, e_i2l, e_i2b, e_l2i, e_i2c, e_getF, e_getR, e_putF, e_putR, e_putz, e_ald, e_aldR, e_ast, e_astb, e_astz, e_asta, e_len, e_acopy, e_new, e_newa, e_mna, e_this, e_room, e_call0, e_callv0, e_call1, e_callv1, e_inv1, e_invv1, e_call2, e_callv2, e_inv2, e_invv2, e_call3, e_callv3, e_inv3, e_invv3, e_call4, e_callv4, e_inv4, e_invv4, e_call5, e_callv5, e_inv5, e_invv5, e_call6, e_callv6, e_inv6, e_invv6, e_call7, e_callv7, e_inv7, e_invv7, e_call8, e_callv8, e_inv8, e_invv8, e_ret, e_retz, e_retc, e_retb, e_retv, e_skip, e_sco, e_tlen, e_tat, e_iz_eq0, e_iz_eq1, e_iz_ne0, e_iz_ne1, add0, sc_d, sc_t, inI_e, inL_e, up_eq, true_or, or_true, or_false, false_or, and_true, true_and, not_false_eq_true, Int.reduceAdd, Int.reduceSub, Int.reduceMul, Int.reduceNeg, k8]
        | with_reducible first | refine izl_lt (fun hc => ?_) (fun hc => ?_) | refine izl_ge (fun hc => ?_) (fun hc => ?_) | refine izl_eq (fun hc => ?_) (fun hc => ?_) | refine ic_ge (fun hc => ?_) (fun hc => ?_) | refine ic_lt (fun hc => ?_) (fun hc => ?_) | refine ic_ne (fun hc => ?_) (fun hc => ?_) | refine ic_eq (fun hc => ?_) (fun hc => ?_) | refine ic_le (fun hc => ?_) (fun hc => ?_) | refine ic_gt (fun hc => ?_) (fun hc => ?_) | refine iz_eq (fun hc => ?_) (fun hc => ?_) | refine iz_ne (fun hc => ?_) (fun hc => ?_) | refine iz_lt (fun hc => ?_) (fun hc => ?_) | refine iz_ge (fun hc => ?_) (fun hc => ?_) | refine iz_gt (fun hc => ?_) (fun hc => ?_) | refine iz_le (fun hc => ?_) (fun hc => ?_) | refine iz_nu (fun hc => ?_) (fun hc => ?_) | refine iz_nn (fun hc => ?_) (fun hc => ?_)
        | omega
        | (exfalso; omega)
      all_goals exact ok
    · rw [if_neg y3] at hk
      have ok : Q 0 (L, R, F3, E, N) := hQ _ ⟨k7, (hF3 _ _ (by omega)).trans h10, by rw [hF3 _ _ (by omega), h9, hk]; rfl, fun _ z => absurd hk z, fun z => by omega, fun z => by omega, by rw [hk, if_neg (by decide), if_neg (by decide), hF3 _ _ (by omega)]; exact h11, by omega, (hF3 _ _ (by omega)).trans h13⟩ (fun b i z => hF3 b i (by omega))
      clear hkk hQ k12 hk
      repeat' first
        | exact absurd hc (by decide)
        | with_reducible refine sM_byteAt hT n9 ht hb k7 ?_ ?_
        | simp (disch := omega) only [ub_X10_isDigit_17, ub_X10_isDigit_16, ue_X10_isDigit, t_X10_isDigit, ub_X10_goesOn_281, zLg, zRf, zFq, zEl, zNz, zUf, zUe, zUr, zCe, zSn, gd_0, gd_1, gd_2, gd_3, gd_4, gd_5, gd_6, gd_7, gd_8, gd_9, gd_10, gd_11, gd_12, gd_13, gd_14, gd_15, gd_16, gd_17, gd_18, gd_19, se_0, se_1, se_2, se_3, se_4, se_5, se_6, se_7, se_8, se_9, se_10, se_11, se_12, se_13, se_14, se_15, se_16, se_17, se_18, se_19, e_const, e_load, e_store, e_iinc, e_dup, e_dup2, e_pop, e_iadd, e_isub, e_imul, e_ladd, e_lsub, e_lmul, e_iaddw, e_isubw, e_imulw, e_laddw, e_lsubw, e_lmulw, e_iand, e_ior, e_ishl, e_ishr, e_iushr, e_lcmp, e_imax, e_imin, e_idiv, e_irem, e_ldiv, e_lrem, e_i2l, e_i2b, e_l2i, e_i2c, e_getF, e_getR, e_putF, e_putR, e_putz, e_ald, e_aldR, e_ast, e_astb, e_astz, e_asta, e_len, e_acopy, e_new, e_newa, e_mna, e_this, e_room, e_call0, e_callv0, e_call1, e_callv1, e_inv1, e_invv1, e_call2, e_callv2, e_inv2, e_invv2, e_call3, e_callv3, e_inv3, e_invv3, e_call4, e_callv4, e_inv4, e_invv4, e_call5, e_callv5, e_inv5, e_invv5, e_call6, e_callv6, e_inv6, e_invv6, e_call7, e_callv7, e_inv7, e_invv7, e_call8, e_callv8, e_inv8, e_invv8, e_ret, e_retz, e_retc, e_retb, e_retv, e_skip, e_sco, e_tlen, e_tat, e_iz_eq0, e_iz_eq1, e_iz_ne0, e_iz_ne1, add0, sc_d, sc_t, inI_e, inL_e, up_eq, true_or, or_true, or_false, false_or, and_true, true_and, not_false_eq_true, Int.reduceAdd, Int.reduceSub, Int.reduceMul, Int.reduceNeg, k8]
        | with_reducible first | refine izl_lt (fun hc => ?_) (fun hc => ?_) | refine izl_ge (fun hc => ?_) (fun hc => ?_) | refine izl_eq (fun hc => ?_) (fun hc => ?_) | refine ic_ge (fun hc => ?_) (fun hc => ?_) | refine ic_lt (fun hc => ?_) (fun hc => ?_) | refine ic_ne (fun hc => ?_) (fun hc => ?_) | refine ic_eq (fun hc => ?_) (fun hc => ?_) | refine ic_le (fun hc => ?_) (fun hc => ?_) | refine ic_gt (fun hc => ?_) (fun hc => ?_) | refine iz_eq (fun hc => ?_) (fun hc => ?_) | refine iz_ne (fun hc => ?_) (fun hc => ?_) | refine iz_lt (fun hc => ?_) (fun hc => ?_) | refine iz_ge (fun hc => ?_) (fun hc => ?_) | refine iz_gt (fun hc => ?_) (fun hc => ?_) | refine iz_le (fun hc => ?_) (fun hc => ?_) | refine iz_nu (fun hc => ?_) (fun hc => ?_) | refine iz_nn (fun hc => ?_) (fun hc => ?_)
        | omega
        | (exfalso; omega)
      all_goals exact ok
theorem m89 (hT : mtT m L R) (n9 : n ≤ 900) (ht : ∀ i : Int, 0 ≤ i → i < n → E (m + 1) i = wB (tp i)) (hb : ∀ i : Int, 0 ≤ i → i < n → 0 ≤ tp i ∧ tp i ≤ 255) (j0 : 0 ≤ j) (jn : j < n) (h7 : F m 7 = n) (h8 : F m 8 = j) (h9 : F m 9 = 0) (h10 : F m 10 = j) (h11 : F m 11 = 0) (h15 : F m 15 = 0) (h13 : F m 13 = 0) (hd : 97 ≤ tp j ∧ tp j ≤ 122) (hQ : ∀ F' : Int → Int → Int, alM m tp n j F' → mkX m F F' → Q 0 (L, R, F', E, N)) : L_X10_goesOn_89 Q [m, x, 0] [] (L, R, F, E, N) c9 s9 := by
  have pm := mt_p hT
  have m5 := mt_5 hT
  have ml := mt_l1 hT
  unfold L_X10_goesOn_89
  refine lpw (fun nn lo st h c d => ∃ (y : Int) (F' : Int → Int → Int), lo = [m, x, y - j] ∧ st = [] ∧ h = (L, R, F', E, N) ∧ j ≤ y ∧ y ≤ n ∧ (nn : Int) = n - y ∧ F' m 8 = y ∧ (y - j ≤ 8 → F' m 15 = wl (fun q => tp (j + q)) (y - j).toNat) ∧ (∀ b i : Int, (b ≠ m ∨ (i ≠ 8 ∧ i ≠ 15)) → F' b i = F b i) ∧ run (isL tp) n y = run (isL tp) n j ∧ (∀ q : Int, j ≤ q → q < y → 97 ≤ tp q ∧ tp q ≤ 122)) ?_ (n := (n - j).toNat) ⟨j, F, by rw [Int.sub_self], rfl, rfl, by omega, by omega, by omega, h8, fun _ => by rw [h15, Int.sub_self]; rfl, fun b i z => rfl, rfl, fun q u v => by omega⟩
  rintro nn kk hkk lo st h c9 s9 ⟨y, F3, rfl, rfl, rfl, hy, hy2, hn1, k8, k15, hF3, hr3, hld⟩
  have k7 : F3 m 7 = n := (hF3 _ _ (by omega)).trans h7
  by_cases hdy : y < n ∧ 97 ≤ tp y ∧ tp y ≤ 122
  · have eb : bt tp n y = tp y := if_pos hdy.1
    have nx : ∀ F4 : Int → Int → Int, F4 m 8 = y + 1 → (y - j < 8 → F4 m 15 = 32 * wl (fun q => tp (j + q)) (y - j).toNat + (tp y - 97 + 1)) → (∀ b i : Int, (b ≠ m ∨ (i ≠ 8 ∧ i ≠ 15)) → F4 b i = F3 b i) → kk [m, x, y - j + 1] [] (L, R, F4, E, N) c9 s9 := fun F4 u1 u2 u3 => by
      refine hkk (nn - 1) _ _ _ _ _ (by omega) ⟨y + 1, F4, by rw [show y + 1 - j = y - j + 1 by omega], rfl, rfl, by omega, by omega, by omega, u1, fun z => ?_, fun b i z => (u3 b i z).trans (hF3 b i z), ?_, fun q u v => ?_⟩
      · rw [u2 (by omega), show (y + 1 - j).toNat = (y - j).toNat + 1 by omega, wl_s]
        show _ = 32 * _ + (tp (j + ((y - j).toNat : Int)) - 96)
        rw [show j + ((y - j).toNat : Int) = y by omega]
        omega
      · rw [← hr3, run_go hdy.1 (isL_t hdy.2)]
      · by_cases yy : q = y
        · rw [yy]; exact hdy.2
        · exact hld q u (by omega)
    by_cases y3 : y - j < 8
    · have vb := wl_c (f := fun q : Nat => tp (j + q)) (k := (y - j).toNat) (by omega) (fun q z => hld _ (by omega) (by omega))
      have e15 := k15 (by omega)
      have u8 : ∀ v : Int, up F3 m 15 v m 8 = y := fun v => (up_ne (by omega)).trans k8
      clear hkk hQ k15
      repeat' first
        | exact absurd hc (by decide)
        | with_reducible refine sM_byteAt hT n9 ht hb k7 ?_ ?_
        | simp (disch := omega) only [ub_X10_isLetter_17, ub_X10_isLetter_16, ue_X10_isLetter, t_X10_isLetter, ub_X10_goesOn_136, zLg, zRf, zFq, zEl, zNz, zUf, zUe, zUr, zCe, zSn, gd_0, gd_1, gd_2, gd_3, gd_4, gd_5, gd_6, gd_7, gd_8, gd_9, gd_10, gd_11, gd_12, gd_13, gd_14, gd_15, gd_16, gd_17, gd_18, gd_19, se_0, se_1, se_2, se_3, se_4, se_5, se_6, se_7, se_8, se_9, se_10, se_11, se_12, se_13, se_14, se_15, se_16, se_17, se_18, se_19, e_const, e_load, e_store, e_iinc, e_dup, e_dup2, e_pop, e_iadd, e_isub, e_imul, e_ladd, e_lsub, e_lmul, e_iaddw, e_isubw, e_imulw, e_laddw, e_lsubw, e_lmulw, e_iand, e_ior, e_ishl, e_ishr, e_iushr, e_lcmp, e_imax, e_imin, e_idiv, e_irem, e_ldiv, e_lrem, e_i2l, e_i2b, e_l2i, e_i2c, e_getF, e_getR, e_putF, e_putR, e_putz, e_ald, e_aldR, e_ast, e_astb, e_astz, e_asta, e_len, e_acopy, e_new, e_newa, e_mna, e_this, e_room, e_call0, e_callv0, e_call1, e_callv1, e_inv1, e_invv1, e_call2, e_callv2, e_inv2, e_invv2, e_call3, e_callv3, e_inv3, e_invv3, e_call4, e_callv4, e_inv4, e_invv4, e_call5, e_callv5, e_inv5, e_invv5, e_call6, e_callv6, e_inv6, e_invv6, e_call7, e_callv7, e_inv7, e_invv7, e_call8, e_callv8, e_inv8, e_invv8, e_ret, e_retz, e_retc, e_retb, e_retv, e_skip, e_sco, e_tlen, e_tat, e_iz_eq0, e_iz_eq1, e_iz_ne0, e_iz_ne1, add0, sc_d, sc_t, inI_e, inL_e, up_eq, true_or, or_true, or_false, false_or, and_true, true_and, not_false_eq_true, Int.reduceAdd, Int.reduceSub, Int.reduceMul, Int.reduceNeg, k8, eb, e15, u8]
        | with_reducible first | refine izl_lt (fun hc => ?_) (fun hc => ?_) | refine izl_ge (fun hc => ?_) (fun hc => ?_) | refine izl_eq (fun hc => ?_) (fun hc => ?_) | refine ic_ge (fun hc => ?_) (fun hc => ?_) | refine ic_lt (fun hc => ?_) (fun hc => ?_) | refine ic_ne (fun hc => ?_) (fun hc => ?_) | refine ic_eq (fun hc => ?_) (fun hc => ?_) | refine ic_le (fun hc => ?_) (fun hc => ?_) | refine ic_gt (fun hc => ?_) (fun hc => ?_) | refine iz_eq (fun hc => ?_) (fun hc => ?_) | refine iz_ne (fun hc => ?_) (fun hc => ?_) | refine iz_lt (fun hc => ?_) (fun hc => ?_) | refine iz_ge (fun hc => ?_) (fun hc => ?_) | refine iz_gt (fun hc => ?_) (fun hc => ?_) | refine iz_le (fun hc => ?_) (fun hc => ?_) | refine iz_nu (fun hc => ?_) (fun hc => ?_) | refine iz_nn (fun hc => ?_) (fun hc => ?_)
        | omega
        | (exfalso; omega)
      all_goals exact nx _ up_eq (fun _ => by rw [up_ne (by omega), up_eq]) (fun b i z => by rw [up_ne (by omega), up_ne (by omega)])
    · clear hkk hQ k15
      repeat' first
        | exact absurd hc (by decide)
        | with_reducible refine sM_byteAt hT n9 ht hb k7 ?_ ?_
        | simp (disch := omega) only [ub_X10_isLetter_17, ub_X10_isLetter_16, ue_X10_isLetter, t_X10_isLetter, ub_X10_goesOn_136, zLg, zRf, zFq, zEl, zNz, zUf, zUe, zUr, zCe, zSn, gd_0, gd_1, gd_2, gd_3, gd_4, gd_5, gd_6, gd_7, gd_8, gd_9, gd_10, gd_11, gd_12, gd_13, gd_14, gd_15, gd_16, gd_17, gd_18, gd_19, se_0, se_1, se_2, se_3, se_4, se_5, se_6, se_7, se_8, se_9, se_10, se_11, se_12, se_13, se_14, se_15, se_16, se_17, se_18, se_19, e_const, e_load, e_store, e_iinc, e_dup, e_dup2, e_pop, e_iadd, e_isub, e_imul, e_ladd, e_lsub, e_lmul, e_iaddw, e_isubw, e_imulw, e_laddw, e_lsubw, e_lmulw, e_iand, e_ior, e_ishl, e_ishr, e_iushr, e_lcmp, e_imax, e_imin, e_idiv, e_irem, e_ldiv, e_lrem, e_i2l, e_i2b, e_l2i, e_i2c, e_getF, e_getR, e_putF, e_putR, e_putz, e_ald, e_aldR, e_ast, e_astb, e_astz, e_asta, e_len, e_acopy, e_new, e_newa, e_mna, e_this, e_room, e_call0, e_callv0, e_call1, e_callv1, e_inv1, e_invv1, e_call2, e_callv2, e_inv2, e_invv2, e_call3, e_callv3, e_inv3, e_invv3, e_call4, e_callv4, e_inv4, e_invv4, e_call5, e_callv5, e_inv5, e_invv5, e_call6, e_callv6, e_inv6, e_invv6, e_call7, e_callv7, e_inv7, e_invv7, e_call8, e_callv8, e_inv8, e_invv8, e_ret, e_retz, e_retc, e_retb, e_retv, e_skip, e_sco, e_tlen, e_tat, e_iz_eq0, e_iz_eq1, e_iz_ne0, e_iz_ne1, add0, sc_d, sc_t, inI_e, inL_e, up_eq, true_or, or_true, or_false, false_or, and_true, true_and, not_false_eq_true, Int.reduceAdd, Int.reduceSub, Int.reduceMul, Int.reduceNeg, k8, eb]
        | with_reducible first | refine izl_lt (fun hc => ?_) (fun hc => ?_) | refine izl_ge (fun hc => ?_) (fun hc => ?_) | refine izl_eq (fun hc => ?_) (fun hc => ?_) | refine ic_ge (fun hc => ?_) (fun hc => ?_) | refine ic_lt (fun hc => ?_) (fun hc => ?_) | refine ic_ne (fun hc => ?_) (fun hc => ?_) | refine ic_eq (fun hc => ?_) (fun hc => ?_) | refine ic_le (fun hc => ?_) (fun hc => ?_) | refine ic_gt (fun hc => ?_) (fun hc => ?_) | refine iz_eq (fun hc => ?_) (fun hc => ?_) | refine iz_ne (fun hc => ?_) (fun hc => ?_) | refine iz_lt (fun hc => ?_) (fun hc => ?_) | refine iz_ge (fun hc => ?_) (fun hc => ?_) | refine iz_gt (fun hc => ?_) (fun hc => ?_) | refine iz_le (fun hc => ?_) (fun hc => ?_) | refine iz_nu (fun hc => ?_) (fun hc => ?_) | refine iz_nn (fun hc => ?_) (fun hc => ?_)
        | omega
        | (exfalso; omega)
      all_goals exact nx _ up_eq (fun z => by omega) (fun b i z => up_ne (by omega))
  · have hrd : run (isL tp) n j = y := by rw [← hr3, run_no (fun z => hdy ⟨z.1, isL_e z.2⟩)]
    have hnx : nxt tp n j = y := by unfold nxt; rw [if_pos ⟨jn, hd⟩, hrd]
    have hk : kdt tp n j = if y - j ≤ 8 then 1 else 5 := by unfold kdt; rw [if_neg (by omega), if_pos hd, hrd]
    have eb : bt tp n y < 97 ∨ 122 < bt tp n y := by
      unfold bt
      by_cases u : y < n
      · rw [if_pos u]; omega
      · rw [if_neg u]; omega
    have yj : j < y := by
      by_cases z : y = j
      · rw [z] at hdy; exact absurd ⟨jn, hd⟩ hdy
      · omega
    by_cases y3 : y - j ≤ 8
    · rw [if_pos y3] at hk
      have ok : Q 0 (L, R, up F3 m 9 2, E, N) := hQ _ ⟨(up_ne (by omega)).trans k7, (up_ne (by omega)).trans ((hF3 _ _ (by omega)).trans h10), by rw [up_eq, hk]; rfl, fun _ _ => (up_ne (by omega)).trans (k8.trans hnx.symm), fun _ => by rw [up_ne (by omega), k15 y3]; unfold wdt; rw [hnx], fun z => by omega, by rw [hk, if_neg (by decide), if_neg (by decide), up_ne (by omega), hF3 _ _ (by omega)]; exact h11, by omega, (up_ne (by omega)).trans ((hF3 _ _ (by omega)).trans h13)⟩ (fun b i z => (up_ne (by omega)).trans (hF3 b i (by omega)))
      clear hkk hQ k15 hk
      repeat' first
        | exact absurd hc (by decide)
        | with_reducible refine sM_byteAt hT n9 ht hb k7 ?_ ?_
        | simp (disch := omega) only [ub_X10_isLetter_17, ub_X10_isLetter_16, ue_X10_isLetter, t_X10_isLetter, ub_X10_goesOn_281, zLg, zRf, zFq, zEl, zNz, zUf, zUe, zUr, zCe, zSn, gd_0, gd_1, gd_2, gd_3, gd_4, gd_5, gd_6, gd_7, gd_8, gd_9, gd_10, gd_11, gd_12, gd_13, gd_14, gd_15, gd_16, gd_17, gd_18, gd_19, se_0, se_1, se_2, se_3, se_4, se_5, se_6, se_7, se_8, se_9, se_10, se_11, se_12, se_13, se_14, se_15, se_16, se_17, se_18, se_19, e_const, e_load, e_store, e_iinc, e_dup, e_dup2, e_pop, e_iadd, e_isub, e_imul, e_ladd, e_lsub, e_lmul, e_iaddw, e_isubw, e_imulw, e_laddw, e_lsubw, e_lmulw, e_iand, e_ior, e_ishl, e_ishr, e_iushr, e_lcmp, e_imax, e_imin, e_idiv, e_irem, e_ldiv, e_lrem, e_i2l, e_i2b, e_l2i, e_i2c, e_getF, e_getR, e_putF, e_putR, e_putz, e_ald, e_aldR, e_ast, e_astb, e_astz, e_asta, e_len, e_acopy, e_new, e_newa, e_mna, e_this, e_room, e_call0, e_callv0, e_call1, e_callv1, e_inv1, e_invv1, e_call2, e_callv2, e_inv2, e_invv2, e_call3, e_callv3, e_inv3, e_invv3, e_call4, e_callv4, e_inv4, e_invv4, e_call5, e_callv5, e_inv5, e_invv5, e_call6, e_callv6, e_inv6, e_invv6, e_call7, e_callv7, e_inv7, e_invv7, e_call8, e_callv8, e_inv8, e_invv8, e_ret, e_retz, e_retc, e_retb, e_retv, e_skip, e_sco, e_tlen, e_tat, e_iz_eq0, e_iz_eq1, e_iz_ne0, e_iz_ne1, add0, sc_d, sc_t, inI_e, inL_e, up_eq, true_or, or_true, or_false, false_or, and_true, true_and, not_false_eq_true, Int.reduceAdd, Int.reduceSub, Int.reduceMul, Int.reduceNeg, k8]
        | with_reducible first | refine izl_lt (fun hc => ?_) (fun hc => ?_) | refine izl_ge (fun hc => ?_) (fun hc => ?_) | refine izl_eq (fun hc => ?_) (fun hc => ?_) | refine ic_ge (fun hc => ?_) (fun hc => ?_) | refine ic_lt (fun hc => ?_) (fun hc => ?_) | refine ic_ne (fun hc => ?_) (fun hc => ?_) | refine ic_eq (fun hc => ?_) (fun hc => ?_) | refine ic_le (fun hc => ?_) (fun hc => ?_) | refine ic_gt (fun hc => ?_) (fun hc => ?_) | refine iz_eq (fun hc => ?_) (fun hc => ?_) | refine iz_ne (fun hc => ?_) (fun hc => ?_) | refine iz_lt (fun hc => ?_) (fun hc => ?_) | refine iz_ge (fun hc => ?_) (fun hc => ?_) | refine iz_gt (fun hc => ?_) (fun hc => ?_) | refine iz_le (fun hc => ?_) (fun hc => ?_) | refine iz_nu (fun hc => ?_) (fun hc => ?_) | refine iz_nn (fun hc => ?_) (fun hc => ?_)
        | omega
        | (exfalso; omega)
      all_goals exact ok
    · rw [if_neg y3] at hk
      have ok : Q 0 (L, R, F3, E, N) := hQ _ ⟨k7, (hF3 _ _ (by omega)).trans h10, by rw [hF3 _ _ (by omega), h9, hk]; rfl, fun _ z => absurd hk z, fun z => by omega, fun z => by omega, by rw [hk, if_neg (by decide), if_neg (by decide), hF3 _ _ (by omega)]; exact h11, by omega, (hF3 _ _ (by omega)).trans h13⟩ (fun b i z => hF3 b i (by omega))
      clear hkk hQ k15 hk
      repeat' first
        | exact absurd hc (by decide)
        | with_reducible refine sM_byteAt hT n9 ht hb k7 ?_ ?_
        | simp (disch := omega) only [ub_X10_isLetter_17, ub_X10_isLetter_16, ue_X10_isLetter, t_X10_isLetter, ub_X10_goesOn_281, zLg, zRf, zFq, zEl, zNz, zUf, zUe, zUr, zCe, zSn, gd_0, gd_1, gd_2, gd_3, gd_4, gd_5, gd_6, gd_7, gd_8, gd_9, gd_10, gd_11, gd_12, gd_13, gd_14, gd_15, gd_16, gd_17, gd_18, gd_19, se_0, se_1, se_2, se_3, se_4, se_5, se_6, se_7, se_8, se_9, se_10, se_11, se_12, se_13, se_14, se_15, se_16, se_17, se_18, se_19, e_const, e_load, e_store, e_iinc, e_dup, e_dup2, e_pop, e_iadd, e_isub, e_imul, e_ladd, e_lsub, e_lmul, e_iaddw, e_isubw, e_imulw, e_laddw, e_lsubw, e_lmulw, e_iand, e_ior, e_ishl, e_ishr, e_iushr, e_lcmp, e_imax, e_imin, e_idiv, e_irem, e_ldiv, e_lrem, e_i2l, e_i2b, e_l2i, e_i2c, e_getF, e_getR, e_putF, e_putR, e_putz, e_ald, e_aldR, e_ast, e_astb, e_astz, e_asta, e_len, e_acopy, e_new, e_newa, e_mna, e_this, e_room, e_call0, e_callv0, e_call1, e_callv1, e_inv1, e_invv1, e_call2, e_callv2, e_inv2, e_invv2, e_call3, e_callv3, e_inv3, e_invv3, e_call4, e_callv4, e_inv4, e_invv4, e_call5, e_callv5, e_inv5, e_invv5, e_call6, e_callv6, e_inv6, e_invv6, e_call7, e_callv7, e_inv7, e_invv7, e_call8, e_callv8, e_inv8, e_invv8, e_ret, e_retz, e_retc, e_retb, e_retv, e_skip, e_sco, e_tlen, e_tat, e_iz_eq0, e_iz_eq1, e_iz_ne0, e_iz_ne1, add0, sc_d, sc_t, inI_e, inL_e, up_eq, true_or, or_true, or_false, false_or, and_true, true_and, not_false_eq_true, Int.reduceAdd, Int.reduceSub, Int.reduceMul, Int.reduceNeg, k8]
        | with_reducible first | refine izl_lt (fun hc => ?_) (fun hc => ?_) | refine izl_ge (fun hc => ?_) (fun hc => ?_) | refine izl_eq (fun hc => ?_) (fun hc => ?_) | refine ic_ge (fun hc => ?_) (fun hc => ?_) | refine ic_lt (fun hc => ?_) (fun hc => ?_) | refine ic_ne (fun hc => ?_) (fun hc => ?_) | refine ic_eq (fun hc => ?_) (fun hc => ?_) | refine ic_le (fun hc => ?_) (fun hc => ?_) | refine ic_gt (fun hc => ?_) (fun hc => ?_) | refine iz_eq (fun hc => ?_) (fun hc => ?_) | refine iz_ne (fun hc => ?_) (fun hc => ?_) | refine iz_lt (fun hc => ?_) (fun hc => ?_) | refine iz_ge (fun hc => ?_) (fun hc => ?_) | refine iz_gt (fun hc => ?_) (fun hc => ?_) | refine iz_le (fun hc => ?_) (fun hc => ?_) | refine iz_nu (fun hc => ?_) (fun hc => ?_) | refine iz_nn (fun hc => ?_) (fun hc => ?_)
        | omega
        | (exfalso; omega)
      all_goals exact ok
set_option maxHeartbeats 4000000 in
theorem sM_goesOn (hT : mtT m L R) (n9 : n ≤ 900) (ht : ∀ i : Int, 0 ≤ i → i < n → E (m + 1) i = wB (tp i)) (hb : ∀ i : Int, 0 ≤ i → i < n → 0 ≤ tp i ∧ tp i ≤ 255) (h9 : F m 9 ≠ 5) (h7 : F m 7 = n) (h8 : F m 8 = p) (h13 : F m 13 = 0) (p0 : 0 ≤ p) (pn : p ≤ n) (hQ : ∀ F' : Int → Int → Int, alM m tp n (skp tp n p) F' → mkX m F F' → Q 0 (L, R, F', E, N)) : T_X10_goesOn [m] (L, R, F, E, N) Q := by
  have pm := mt_p hT
  have m5 := mt_5 hT
  have ml := mt_l1 hT
  have key : L_X10_goesOn_9 Q [m, 0, 0] [] (L, R, F, E, N) 0 0 := by
    unfold L_X10_goesOn_9
    refine lpw (fun nn lo st h c d => ∃ (y : Int) (F' : Int → Int → Int), lo = [m, 0, 0] ∧ st = [] ∧ h = (L, R, F', E, N) ∧ p ≤ y ∧ y ≤ n ∧ (nn : Int) = n - y ∧ F' m 8 = y ∧ (∀ b i : Int, (b ≠ m ∨ i ≠ 8) → F' b i = F b i) ∧ run (isS tp) n y = run (isS tp) n p) ?_ (n := (n - p).toNat) ⟨p, F, rfl, rfl, rfl, by omega, by omega, by omega, h8, fun b i z => rfl, rfl⟩
    rintro nn kk hkk lo st h c9 s9 ⟨j, F3, rfl, rfl, rfl, hy, hy2, hn1, k8, hF3, hr3⟩
    have k7 : F3 m 7 = n := (hF3 _ _ (by omega)).trans h7
    by_cases hsp : j < n ∧ tp j = 32
    · have eb : bt tp n j = 32 := by unfold bt; rw [if_pos hsp.1]; exact hsp.2
      have nx : kk [m, 0, 0] [] (L, R, up F3 m 8 (j + 1), E, N) c9 s9 := by
        refine hkk (nn - 1) _ _ _ _ _ (by omega) ⟨j + 1, _, rfl, rfl, rfl, by omega, by omega, by omega, up_eq, fun b i z => (up_ne (by omega)).trans (hF3 b i z), ?_⟩
        rw [← hr3, run_go hsp.1 (isS_t hsp.2)]
      clear hkk hQ
      repeat' first
        | exact absurd hc (by decide)
        | with_reducible refine sM_byteAt hT n9 ht hb k7 ?_ ?_
        | simp (disch := omega) only [zLg, zRf, zFq, zEl, zNz, zUf, zUe, zUr, zCe, zSn, gd_0, gd_1, gd_2, gd_3, gd_4, gd_5, gd_6, gd_7, gd_8, gd_9, gd_10, gd_11, gd_12, gd_13, gd_14, gd_15, gd_16, gd_17, gd_18, gd_19, se_0, se_1, se_2, se_3, se_4, se_5, se_6, se_7, se_8, se_9, se_10, se_11, se_12, se_13, se_14, se_15, se_16, se_17, se_18, se_19, e_const, e_load, e_store, e_iinc, e_dup, e_dup2, e_pop, e_iadd, e_isub, e_imul, e_ladd, e_lsub, e_lmul, e_iaddw, e_isubw, e_imulw, e_laddw, e_lsubw, e_lmulw, e_iand, e_ior, e_ishl, e_ishr, e_iushr, e_lcmp, e_imax, e_imin, e_idiv, e_irem, e_ldiv, e_lrem, e_i2l, e_i2b, e_l2i, e_i2c, e_getF, e_getR, e_putF, e_putR, e_putz, e_ald, e_aldR, e_ast, e_astb, e_astz, e_asta, e_len, e_acopy, e_new, e_newa, e_mna, e_this, e_room, e_call0, e_callv0, e_call1, e_callv1, e_inv1, e_invv1, e_call2, e_callv2, e_inv2, e_invv2, e_call3, e_callv3, e_inv3, e_invv3, e_call4, e_callv4, e_inv4, e_invv4, e_call5, e_callv5, e_inv5, e_invv5, e_call6, e_callv6, e_inv6, e_invv6, e_call7, e_callv7, e_inv7, e_invv7, e_call8, e_callv8, e_inv8, e_invv8, e_ret, e_retz, e_retc, e_retb, e_retv, e_skip, e_sco, e_tlen, e_tat, e_iz_eq0, e_iz_eq1, e_iz_ne0, e_iz_ne1, add0, sc_d, sc_t, inI_e, inL_e, up_eq, true_or, or_true, or_false, false_or, and_true, true_and, not_false_eq_true, Int.reduceAdd, Int.reduceSub, Int.reduceMul, Int.reduceNeg, k8, eb]
        | with_reducible first | refine izl_lt (fun hc => ?_) (fun hc => ?_) | refine izl_ge (fun hc => ?_) (fun hc => ?_) | refine izl_eq (fun hc => ?_) (fun hc => ?_) | refine ic_ge (fun hc => ?_) (fun hc => ?_) | refine ic_lt (fun hc => ?_) (fun hc => ?_) | refine ic_ne (fun hc => ?_) (fun hc => ?_) | refine ic_eq (fun hc => ?_) (fun hc => ?_) | refine ic_le (fun hc => ?_) (fun hc => ?_) | refine ic_gt (fun hc => ?_) (fun hc => ?_) | refine iz_eq (fun hc => ?_) (fun hc => ?_) | refine iz_ne (fun hc => ?_) (fun hc => ?_) | refine iz_lt (fun hc => ?_) (fun hc => ?_) | refine iz_ge (fun hc => ?_) (fun hc => ?_) | refine iz_gt (fun hc => ?_) (fun hc => ?_) | refine iz_le (fun hc => ?_) (fun hc => ?_) | refine iz_nu (fun hc => ?_) (fun hc => ?_) | refine iz_nn (fun hc => ?_) (fun hc => ?_)
        | omega
        | (exfalso; omega)
      all_goals exact nx
    · have hsk : skp tp n p = j := by
        unfold skp
        rw [← hr3, run_no (fun z => hsp ⟨z.1, isS_e z.2⟩)]
      rw [hsk] at hQ
      have ebn : bt tp n j ≠ 32 := by
        unfold bt
        by_cases u : j < n
        · rw [if_pos u]; exact fun z => hsp ⟨u, z⟩
        · rw [if_neg u]; decide
      have w13 : F3 m 13 = 0 := (hF3 _ _ (by omega)).trans h13
      obtain ⟨G, hG⟩ : ∃ G : Int → Int → Int, G = up (up (up F3 m 10 j) m 9 0) m 11 0 := ⟨_, rfl⟩
      have g7 : G m 7 = n := by rw [hG, up_ne (by omega), up_ne (by omega), up_ne (by omega)]; exact k7
      have g8 : G m 8 = j := by rw [hG, up_ne (by omega), up_ne (by omega), up_ne (by omega)]; exact k8
      have g9 : G m 9 = 0 := by rw [hG, up_ne (by omega), up_eq]
      have g10 : G m 10 = j := by rw [hG, up_ne (by omega), up_ne (by omega), up_eq]
      have g11 : G m 11 = 0 := by rw [hG, up_eq]
      have g13 : G m 13 = 0 := by rw [hG, up_ne (by omega), up_ne (by omega), up_ne (by omega)]; exact w13
      have gF : mkX m F G := fun b i z => by rw [hG, up_ne (by omega), up_ne (by omega), up_ne (by omega)]; exact hF3 b i (by omega)
      clear hkk hr3
      repeat' first
        | exact absurd hc (by decide)
        | with_reducible refine sM_byteAt hT n9 ht hb k7 ?_ ?_
        | simp (disch := omega) only [zLg, zRf, zFq, zEl, zNz, zUf, zUe, zUr, zCe, zSn, gd_0, gd_1, gd_2, gd_3, gd_4, gd_5, gd_6, gd_7, gd_8, gd_9, gd_10, gd_11, gd_12, gd_13, gd_14, gd_15, gd_16, gd_17, gd_18, gd_19, se_0, se_1, se_2, se_3, se_4, se_5, se_6, se_7, se_8, se_9, se_10, se_11, se_12, se_13, se_14, se_15, se_16, se_17, se_18, se_19, e_const, e_load, e_store, e_iinc, e_dup, e_dup2, e_pop, e_iadd, e_isub, e_imul, e_ladd, e_lsub, e_lmul, e_iaddw, e_isubw, e_imulw, e_laddw, e_lsubw, e_lmulw, e_iand, e_ior, e_ishl, e_ishr, e_iushr, e_lcmp, e_imax, e_imin, e_idiv, e_irem, e_ldiv, e_lrem, e_i2l, e_i2b, e_l2i, e_i2c, e_getF, e_getR, e_putF, e_putR, e_putz, e_ald, e_aldR, e_ast, e_astb, e_astz, e_asta, e_len, e_acopy, e_new, e_newa, e_mna, e_this, e_room, e_call0, e_callv0, e_call1, e_callv1, e_inv1, e_invv1, e_call2, e_callv2, e_inv2, e_invv2, e_call3, e_callv3, e_inv3, e_invv3, e_call4, e_callv4, e_inv4, e_invv4, e_call5, e_callv5, e_inv5, e_invv5, e_call6, e_callv6, e_inv6, e_invv6, e_call7, e_callv7, e_inv7, e_invv7, e_call8, e_callv8, e_inv8, e_invv8, e_ret, e_retz, e_retc, e_retb, e_retv, e_skip, e_sco, e_tlen, e_tat, e_iz_eq0, e_iz_eq1, e_iz_ne0, e_iz_ne1, add0, sc_d, sc_t, inI_e, inL_e, up_eq, true_or, or_true, or_false, false_or, and_true, true_and, not_false_eq_true, Int.reduceAdd, Int.reduceSub, Int.reduceMul, Int.reduceNeg, k8]
        | with_reducible first | refine izl_lt (fun hc => ?_) (fun hc => ?_) | refine izl_ge (fun hc => ?_) (fun hc => ?_) | refine izl_eq (fun hc => ?_) (fun hc => ?_) | refine ic_ge (fun hc => ?_) (fun hc => ?_) | refine ic_lt (fun hc => ?_) (fun hc => ?_) | refine ic_ne (fun hc => ?_) (fun hc => ?_) | refine ic_eq (fun hc => ?_) (fun hc => ?_) | refine ic_le (fun hc => ?_) (fun hc => ?_) | refine ic_gt (fun hc => ?_) (fun hc => ?_) | refine iz_eq (fun hc => ?_) (fun hc => ?_) | refine iz_ne (fun hc => ?_) (fun hc => ?_) | refine iz_lt (fun hc => ?_) (fun hc => ?_) | refine iz_ge (fun hc => ?_) (fun hc => ?_) | refine iz_gt (fun hc => ?_) (fun hc => ?_) | refine iz_le (fun hc => ?_) (fun hc => ?_) | refine iz_nu (fun hc => ?_) (fun hc => ?_) | refine iz_nn (fun hc => ?_) (fun hc => ?_)
        | omega
        | (exfalso; omega)
      rw [← hG, g8]
      clear hG hF3 k7 k8 w13
      refine sM_byteAt hT n9 ht hb g7 (by omega) ?_
      by_cases jn : j < n
      · have eb : bt tp n j = tp j := if_pos jn
        have tb := hb j (by omega) jn
        by_cases hl : 97 ≤ tp j ∧ tp j ≤ 122
        · have ok : L_X10_goesOn_89 Q [m, tp j, 0] [] (L, R, up G m 15 0, E, N) c9 s9 := m89 hT n9 ht hb (by omega) jn ((up_ne (by omega)).trans g7) ((up_ne (by omega)).trans g8) ((up_ne (by omega)).trans g9) ((up_ne (by omega)).trans g10) ((up_ne (by omega)).trans g11) up_eq ((up_ne (by omega)).trans g13) hl (fun F' a b => hQ F' a (mkX.t gF (fun b' i z => (b b' i z).trans (up_ne (by omega)))))
          clear hQ
          repeat' first
            | exact absurd hc (by decide)
            | simp (disch := omega) only [ub_X10_isLetter_17, ub_X10_isLetter_16, ue_X10_isLetter, t_X10_isLetter, ub_X10_isDigit_17, ub_X10_isDigit_16, ue_X10_isDigit, t_X10_isDigit, zLg, zRf, zFq, zEl, zNz, zUf, zUe, zUr, zCe, zSn, gd_0, gd_1, gd_2, gd_3, gd_4, gd_5, gd_6, gd_7, gd_8, gd_9, gd_10, gd_11, gd_12, gd_13, gd_14, gd_15, gd_16, gd_17, gd_18, gd_19, se_0, se_1, se_2, se_3, se_4, se_5, se_6, se_7, se_8, se_9, se_10, se_11, se_12, se_13, se_14, se_15, se_16, se_17, se_18, se_19, e_const, e_load, e_store, e_iinc, e_dup, e_dup2, e_pop, e_iadd, e_isub, e_imul, e_ladd, e_lsub, e_lmul, e_iaddw, e_isubw, e_imulw, e_laddw, e_lsubw, e_lmulw, e_iand, e_ior, e_ishl, e_ishr, e_iushr, e_lcmp, e_imax, e_imin, e_idiv, e_irem, e_ldiv, e_lrem, e_i2l, e_i2b, e_l2i, e_i2c, e_getF, e_getR, e_putF, e_putR, e_putz, e_ald, e_aldR, e_ast, e_astb, e_astz, e_asta, e_len, e_acopy, e_new, e_newa, e_mna, e_this, e_room, e_call0, e_callv0, e_call1, e_callv1, e_inv1, e_invv1, e_call2, e_callv2, e_inv2, e_invv2, e_call3, e_callv3, e_inv3, e_invv3, e_call4, e_callv4, e_inv4, e_invv4, e_call5, e_callv5, e_inv5, e_invv5, e_call6, e_callv6, e_inv6, e_invv6, e_call7, e_callv7, e_inv7, e_invv7, e_call8, e_callv8, e_inv8, e_invv8, e_ret, e_retz, e_retc, e_retb, e_retv, e_skip, e_sco, e_tlen, e_tat, e_iz_eq0, e_iz_eq1, e_iz_ne0, e_iz_ne1, add0, sc_d, sc_t, inI_e, inL_e, up_eq, true_or, or_true, or_false, false_or, and_true, true_and, not_false_eq_true, Int.reduceAdd, Int.reduceSub, Int.reduceMul, Int.reduceNeg, eb]
            | with_reducible first | refine izl_lt (fun hc => ?_) (fun hc => ?_) | refine izl_ge (fun hc => ?_) (fun hc => ?_) | refine izl_eq (fun hc => ?_) (fun hc => ?_) | refine ic_ge (fun hc => ?_) (fun hc => ?_) | refine ic_lt (fun hc => ?_) (fun hc => ?_) | refine ic_ne (fun hc => ?_) (fun hc => ?_) | refine ic_eq (fun hc => ?_) (fun hc => ?_) | refine ic_le (fun hc => ?_) (fun hc => ?_) | refine ic_gt (fun hc => ?_) (fun hc => ?_) | refine iz_eq (fun hc => ?_) (fun hc => ?_) | refine iz_ne (fun hc => ?_) (fun hc => ?_) | refine iz_lt (fun hc => ?_) (fun hc => ?_) | refine iz_ge (fun hc => ?_) (fun hc => ?_) | refine iz_gt (fun hc => ?_) (fun hc => ?_) | refine iz_le (fun hc => ?_) (fun hc => ?_) | refine iz_nu (fun hc => ?_) (fun hc => ?_) | refine iz_nn (fun hc => ?_) (fun hc => ?_)
            | omega
            | (exfalso; omega)
          all_goals exact ok
        by_cases hd : 48 ≤ tp j ∧ tp j ≤ 57
        · have ok : L_X10_goesOn_178 Q [m, tp j, 0] [] (L, R, up G m 12 0, E, N) c9 s9 := m178 hT n9 ht hb (by omega) jn ((up_ne (by omega)).trans g7) ((up_ne (by omega)).trans g8) ((up_ne (by omega)).trans g9) ((up_ne (by omega)).trans g10) ((up_ne (by omega)).trans g11) up_eq ((up_ne (by omega)).trans g13) hd (fun F' a b => hQ F' a (mkX.t gF (fun b' i z => (b b' i z).trans (up_ne (by omega)))))
          clear hQ
          repeat' first
            | exact absurd hc (by decide)
            | simp (disch := omega) only [ub_X10_isLetter_17, ub_X10_isLetter_16, ue_X10_isLetter, t_X10_isLetter, ub_X10_isDigit_17, ub_X10_isDigit_16, ue_X10_isDigit, t_X10_isDigit, zLg, zRf, zFq, zEl, zNz, zUf, zUe, zUr, zCe, zSn, gd_0, gd_1, gd_2, gd_3, gd_4, gd_5, gd_6, gd_7, gd_8, gd_9, gd_10, gd_11, gd_12, gd_13, gd_14, gd_15, gd_16, gd_17, gd_18, gd_19, se_0, se_1, se_2, se_3, se_4, se_5, se_6, se_7, se_8, se_9, se_10, se_11, se_12, se_13, se_14, se_15, se_16, se_17, se_18, se_19, e_const, e_load, e_store, e_iinc, e_dup, e_dup2, e_pop, e_iadd, e_isub, e_imul, e_ladd, e_lsub, e_lmul, e_iaddw, e_isubw, e_imulw, e_laddw, e_lsubw, e_lmulw, e_iand, e_ior, e_ishl, e_ishr, e_iushr, e_lcmp, e_imax, e_imin, e_idiv, e_irem, e_ldiv, e_lrem, e_i2l, e_i2b, e_l2i, e_i2c, e_getF, e_getR, e_putF, e_putR, e_putz, e_ald, e_aldR, e_ast, e_astb, e_astz, e_asta, e_len, e_acopy, e_new, e_newa, e_mna, e_this, e_room, e_call0, e_callv0, e_call1, e_callv1, e_inv1, e_invv1, e_call2, e_callv2, e_inv2, e_invv2, e_call3, e_callv3, e_inv3, e_invv3, e_call4, e_callv4, e_inv4, e_invv4, e_call5, e_callv5, e_inv5, e_invv5, e_call6, e_callv6, e_inv6, e_invv6, e_call7, e_callv7, e_inv7, e_invv7, e_call8, e_callv8, e_inv8, e_invv8, e_ret, e_retz, e_retc, e_retb, e_retv, e_skip, e_sco, e_tlen, e_tat, e_iz_eq0, e_iz_eq1, e_iz_ne0, e_iz_ne1, add0, sc_d, sc_t, inI_e, inL_e, up_eq, true_or, or_true, or_false, false_or, and_true, true_and, not_false_eq_true, Int.reduceAdd, Int.reduceSub, Int.reduceMul, Int.reduceNeg, eb]
            | with_reducible first | refine izl_lt (fun hc => ?_) (fun hc => ?_) | refine izl_ge (fun hc => ?_) (fun hc => ?_) | refine izl_eq (fun hc => ?_) (fun hc => ?_) | refine ic_ge (fun hc => ?_) (fun hc => ?_) | refine ic_lt (fun hc => ?_) (fun hc => ?_) | refine ic_ne (fun hc => ?_) (fun hc => ?_) | refine ic_eq (fun hc => ?_) (fun hc => ?_) | refine ic_le (fun hc => ?_) (fun hc => ?_) | refine ic_gt (fun hc => ?_) (fun hc => ?_) | refine iz_eq (fun hc => ?_) (fun hc => ?_) | refine iz_ne (fun hc => ?_) (fun hc => ?_) | refine iz_lt (fun hc => ?_) (fun hc => ?_) | refine iz_ge (fun hc => ?_) (fun hc => ?_) | refine iz_gt (fun hc => ?_) (fun hc => ?_) | refine iz_le (fun hc => ?_) (fun hc => ?_) | refine iz_nu (fun hc => ?_) (fun hc => ?_) | refine iz_nn (fun hc => ?_) (fun hc => ?_)
            | omega
            | (exfalso; omega)
          all_goals exact ok
        have hnx : nxt tp n j = j + 1 := by unfold nxt; rw [if_neg (by omega), if_neg (by omega)]
        have hk : kdt tp n j = if tp j = 59 then 3 else if tp j = 44 then 4 else 5 := by unfold kdt; rw [if_neg (by omega), if_neg hl, if_neg hd]
        have sg : ∀ v : Int, kdt tp n j = v → (v = 3 ∧ tp j = 59) ∨ (v = 4 ∧ tp j = 44) → Q 0 (L, R, up (up (up G m 9 4) m 11 (tp j)) m 8 (j + 1), E, N) := fun v hv hv2 => by
          refine hQ _ ⟨?_, ?_, ?_, fun _ _ => by rw [up_eq, hnx], fun z => by omega, fun z => by omega, ?_, by omega, ?_⟩ (fun b' i z => by rw [up_ne (by omega), up_ne (by omega), up_ne (by omega)]; exact gF b' i z)
          · rw [up_ne (by omega), up_ne (by omega), up_ne (by omega)]; exact g7
          · rw [up_ne (by omega), up_ne (by omega), up_ne (by omega)]; exact g10
          · rw [up_ne (by omega), up_ne (by omega), up_eq, hv]
            rcases hv2 with y | y
            · rw [y.1]; rfl
            · rw [y.1]; rfl
          · rw [up_ne (by omega), up_eq, hv]
            rcases hv2 with y | y
            · rw [y.1, y.2]; rfl
            · rw [y.1, y.2]; rfl
          · rw [up_ne (by omega), up_ne (by omega), up_ne (by omega)]; exact g13
        by_cases h59 : tp j = 59
        · have ok := sg 3 (by rw [hk, if_pos h59]) (Or.inl ⟨rfl, h59⟩)
          have u8 : up (up G m 9 4) m 11 (tp j) m 8 = j := by rw [up_ne (by omega), up_ne (by omega)]; exact g8
          clear hQ sg
          repeat' first
            | exact absurd hc (by decide)
            | simp (disch := omega) only [ub_X10_isLetter_17, ub_X10_isLetter_16, ue_X10_isLetter, t_X10_isLetter, ub_X10_isDigit_17, ub_X10_isDigit_16, ue_X10_isDigit, t_X10_isDigit, ub_X10_goesOn_261, ub_X10_goesOn_281, zLg, zRf, zFq, zEl, zNz, zUf, zUe, zUr, zCe, zSn, gd_0, gd_1, gd_2, gd_3, gd_4, gd_5, gd_6, gd_7, gd_8, gd_9, gd_10, gd_11, gd_12, gd_13, gd_14, gd_15, gd_16, gd_17, gd_18, gd_19, se_0, se_1, se_2, se_3, se_4, se_5, se_6, se_7, se_8, se_9, se_10, se_11, se_12, se_13, se_14, se_15, se_16, se_17, se_18, se_19, e_const, e_load, e_store, e_iinc, e_dup, e_dup2, e_pop, e_iadd, e_isub, e_imul, e_ladd, e_lsub, e_lmul, e_iaddw, e_isubw, e_imulw, e_laddw, e_lsubw, e_lmulw, e_iand, e_ior, e_ishl, e_ishr, e_iushr, e_lcmp, e_imax, e_imin, e_idiv, e_irem, e_ldiv, e_lrem, e_i2l, e_i2b, e_l2i, e_i2c, e_getF, e_getR, e_putF, e_putR, e_putz, e_ald, e_aldR, e_ast, e_astb, e_astz, e_asta, e_len, e_acopy, e_new, e_newa, e_mna, e_this, e_room, e_call0, e_callv0, e_call1, e_callv1, e_inv1, e_invv1, e_call2, e_callv2, e_inv2, e_invv2, e_call3, e_callv3, e_inv3, e_invv3, e_call4, e_callv4, e_inv4, e_invv4, e_call5, e_callv5, e_inv5, e_invv5, e_call6, e_callv6, e_inv6, e_invv6, e_call7, e_callv7, e_inv7, e_invv7, e_call8, e_callv8, e_inv8, e_invv8, e_ret, e_retz, e_retc, e_retb, e_retv, e_skip, e_sco, e_tlen, e_tat, e_iz_eq0, e_iz_eq1, e_iz_ne0, e_iz_ne1, add0, sc_d, sc_t, inI_e, inL_e, up_eq, true_or, or_true, or_false, false_or, and_true, true_and, not_false_eq_true, Int.reduceAdd, Int.reduceSub, Int.reduceMul, Int.reduceNeg, eb, u8]
            | with_reducible first | refine izl_lt (fun hc => ?_) (fun hc => ?_) | refine izl_ge (fun hc => ?_) (fun hc => ?_) | refine izl_eq (fun hc => ?_) (fun hc => ?_) | refine ic_ge (fun hc => ?_) (fun hc => ?_) | refine ic_lt (fun hc => ?_) (fun hc => ?_) | refine ic_ne (fun hc => ?_) (fun hc => ?_) | refine ic_eq (fun hc => ?_) (fun hc => ?_) | refine ic_le (fun hc => ?_) (fun hc => ?_) | refine ic_gt (fun hc => ?_) (fun hc => ?_) | refine iz_eq (fun hc => ?_) (fun hc => ?_) | refine iz_ne (fun hc => ?_) (fun hc => ?_) | refine iz_lt (fun hc => ?_) (fun hc => ?_) | refine iz_ge (fun hc => ?_) (fun hc => ?_) | refine iz_gt (fun hc => ?_) (fun hc => ?_) | refine iz_le (fun hc => ?_) (fun hc => ?_) | refine iz_nu (fun hc => ?_) (fun hc => ?_) | refine iz_nn (fun hc => ?_) (fun hc => ?_)
            | omega
            | (exfalso; omega)
          all_goals exact ok
        by_cases h44 : tp j = 44
        · have ok := sg 4 (by rw [hk, if_neg h59, if_pos h44]) (Or.inr ⟨rfl, h44⟩)
          have u8 : up (up G m 9 4) m 11 (tp j) m 8 = j := by rw [up_ne (by omega), up_ne (by omega)]; exact g8
          clear hQ sg
          repeat' first
            | exact absurd hc (by decide)
            | simp (disch := omega) only [ub_X10_isLetter_17, ub_X10_isLetter_16, ue_X10_isLetter, t_X10_isLetter, ub_X10_isDigit_17, ub_X10_isDigit_16, ue_X10_isDigit, t_X10_isDigit, ub_X10_goesOn_261, ub_X10_goesOn_281, zLg, zRf, zFq, zEl, zNz, zUf, zUe, zUr, zCe, zSn, gd_0, gd_1, gd_2, gd_3, gd_4, gd_5, gd_6, gd_7, gd_8, gd_9, gd_10, gd_11, gd_12, gd_13, gd_14, gd_15, gd_16, gd_17, gd_18, gd_19, se_0, se_1, se_2, se_3, se_4, se_5, se_6, se_7, se_8, se_9, se_10, se_11, se_12, se_13, se_14, se_15, se_16, se_17, se_18, se_19, e_const, e_load, e_store, e_iinc, e_dup, e_dup2, e_pop, e_iadd, e_isub, e_imul, e_ladd, e_lsub, e_lmul, e_iaddw, e_isubw, e_imulw, e_laddw, e_lsubw, e_lmulw, e_iand, e_ior, e_ishl, e_ishr, e_iushr, e_lcmp, e_imax, e_imin, e_idiv, e_irem, e_ldiv, e_lrem, e_i2l, e_i2b, e_l2i, e_i2c, e_getF, e_getR, e_putF, e_putR, e_putz, e_ald, e_aldR, e_ast, e_astb, e_astz, e_asta, e_len, e_acopy, e_new, e_newa, e_mna, e_this, e_room, e_call0, e_callv0, e_call1, e_callv1, e_inv1, e_invv1, e_call2, e_callv2, e_inv2, e_invv2, e_call3, e_callv3, e_inv3, e_invv3, e_call4, e_callv4, e_inv4, e_invv4, e_call5, e_callv5, e_inv5, e_invv5, e_call6, e_callv6, e_inv6, e_invv6, e_call7, e_callv7, e_inv7, e_invv7, e_call8, e_callv8, e_inv8, e_invv8, e_ret, e_retz, e_retc, e_retb, e_retv, e_skip, e_sco, e_tlen, e_tat, e_iz_eq0, e_iz_eq1, e_iz_ne0, e_iz_ne1, add0, sc_d, sc_t, inI_e, inL_e, up_eq, true_or, or_true, or_false, false_or, and_true, true_and, not_false_eq_true, Int.reduceAdd, Int.reduceSub, Int.reduceMul, Int.reduceNeg, eb, u8]
            | with_reducible first | refine izl_lt (fun hc => ?_) (fun hc => ?_) | refine izl_ge (fun hc => ?_) (fun hc => ?_) | refine izl_eq (fun hc => ?_) (fun hc => ?_) | refine ic_ge (fun hc => ?_) (fun hc => ?_) | refine ic_lt (fun hc => ?_) (fun hc => ?_) | refine ic_ne (fun hc => ?_) (fun hc => ?_) | refine ic_eq (fun hc => ?_) (fun hc => ?_) | refine ic_le (fun hc => ?_) (fun hc => ?_) | refine ic_gt (fun hc => ?_) (fun hc => ?_) | refine iz_eq (fun hc => ?_) (fun hc => ?_) | refine iz_ne (fun hc => ?_) (fun hc => ?_) | refine iz_lt (fun hc => ?_) (fun hc => ?_) | refine iz_ge (fun hc => ?_) (fun hc => ?_) | refine iz_gt (fun hc => ?_) (fun hc => ?_) | refine iz_le (fun hc => ?_) (fun hc => ?_) | refine iz_nu (fun hc => ?_) (fun hc => ?_) | refine iz_nn (fun hc => ?_) (fun hc => ?_)
            | omega
            | (exfalso; omega)
          all_goals exact ok
        rw [if_neg h59, if_neg h44] at hk
        have ok := hQ G ⟨g7, g10, by rw [g9, hk]; rfl, fun _ z => absurd hk z, fun z => by omega, fun z => by omega, by rw [hk, g11]; rfl, by omega, g13⟩ gF
        clear hQ sg
        repeat' first
          | exact absurd hc (by decide)
          | simp (disch := omega) only [ub_X10_isLetter_17, ub_X10_isLetter_16, ue_X10_isLetter, t_X10_isLetter, ub_X10_isDigit_17, ub_X10_isDigit_16, ue_X10_isDigit, t_X10_isDigit, ub_X10_goesOn_281, zLg, zRf, zFq, zEl, zNz, zUf, zUe, zUr, zCe, zSn, gd_0, gd_1, gd_2, gd_3, gd_4, gd_5, gd_6, gd_7, gd_8, gd_9, gd_10, gd_11, gd_12, gd_13, gd_14, gd_15, gd_16, gd_17, gd_18, gd_19, se_0, se_1, se_2, se_3, se_4, se_5, se_6, se_7, se_8, se_9, se_10, se_11, se_12, se_13, se_14, se_15, se_16, se_17, se_18, se_19, e_const, e_load, e_store, e_iinc, e_dup, e_dup2, e_pop, e_iadd, e_isub, e_imul, e_ladd, e_lsub, e_lmul, e_iaddw, e_isubw, e_imulw, e_laddw, e_lsubw, e_lmulw, e_iand, e_ior, e_ishl, e_ishr, e_iushr, e_lcmp, e_imax, e_imin, e_idiv, e_irem, e_ldiv, e_lrem, e_i2l, e_i2b, e_l2i, e_i2c, e_getF, e_getR, e_putF, e_putR, e_putz, e_ald, e_aldR, e_ast, e_astb, e_astz, e_asta, e_len, e_acopy, e_new, e_newa, e_mna, e_this, e_room, e_call0, e_callv0, e_call1, e_callv1, e_inv1, e_invv1, e_call2, e_callv2, e_inv2, e_invv2, e_call3, e_callv3, e_inv3, e_invv3, e_call4, e_callv4, e_inv4, e_invv4, e_call5, e_callv5, e_inv5, e_invv5, e_call6, e_callv6, e_inv6, e_invv6, e_call7, e_callv7, e_inv7, e_invv7, e_call8, e_callv8, e_inv8, e_invv8, e_ret, e_retz, e_retc, e_retb, e_retv, e_skip, e_sco, e_tlen, e_tat, e_iz_eq0, e_iz_eq1, e_iz_ne0, e_iz_ne1, add0, sc_d, sc_t, inI_e, inL_e, up_eq, true_or, or_true, or_false, false_or, and_true, true_and, not_false_eq_true, Int.reduceAdd, Int.reduceSub, Int.reduceMul, Int.reduceNeg, eb]
          | with_reducible first | refine izl_lt (fun hc => ?_) (fun hc => ?_) | refine izl_ge (fun hc => ?_) (fun hc => ?_) | refine izl_eq (fun hc => ?_) (fun hc => ?_) | refine ic_ge (fun hc => ?_) (fun hc => ?_) | refine ic_lt (fun hc => ?_) (fun hc => ?_) | refine ic_ne (fun hc => ?_) (fun hc => ?_) | refine ic_eq (fun hc => ?_) (fun hc => ?_) | refine ic_le (fun hc => ?_) (fun hc => ?_) | refine ic_gt (fun hc => ?_) (fun hc => ?_) | refine iz_eq (fun hc => ?_) (fun hc => ?_) | refine iz_ne (fun hc => ?_) (fun hc => ?_) | refine iz_lt (fun hc => ?_) (fun hc => ?_) | refine iz_ge (fun hc => ?_) (fun hc => ?_) | refine iz_gt (fun hc => ?_) (fun hc => ?_) | refine iz_le (fun hc => ?_) (fun hc => ?_) | refine iz_nu (fun hc => ?_) (fun hc => ?_) | refine iz_nn (fun hc => ?_) (fun hc => ?_)
          | omega
          | (exfalso; omega)
        all_goals exact ok
      · have eb : bt tp n j = -1 := if_neg jn
        have hk : kdt tp n j = 0 := by unfold kdt; rw [if_pos (by omega)]
        have ok := hQ (up G m 9 1) ⟨(up_ne (by omega)).trans g7, (up_ne (by omega)).trans g10, by rw [up_eq, hk]; rfl, fun z => absurd hk z, fun z => by omega, fun z => by omega, by rw [hk, up_ne (by omega), g11]; rfl, by omega, (up_ne (by omega)).trans g13⟩ (fun b' i z => (up_ne (by omega)).trans (gF b' i z))
        clear hQ
        repeat' first
          | exact absurd hc (by decide)
          | simp (disch := omega) only [ub_X10_goesOn_281, zLg, zRf, zFq, zEl, zNz, zUf, zUe, zUr, zCe, zSn, gd_0, gd_1, gd_2, gd_3, gd_4, gd_5, gd_6, gd_7, gd_8, gd_9, gd_10, gd_11, gd_12, gd_13, gd_14, gd_15, gd_16, gd_17, gd_18, gd_19, se_0, se_1, se_2, se_3, se_4, se_5, se_6, se_7, se_8, se_9, se_10, se_11, se_12, se_13, se_14, se_15, se_16, se_17, se_18, se_19, e_const, e_load, e_store, e_iinc, e_dup, e_dup2, e_pop, e_iadd, e_isub, e_imul, e_ladd, e_lsub, e_lmul, e_iaddw, e_isubw, e_imulw, e_laddw, e_lsubw, e_lmulw, e_iand, e_ior, e_ishl, e_ishr, e_iushr, e_lcmp, e_imax, e_imin, e_idiv, e_irem, e_ldiv, e_lrem, e_i2l, e_i2b, e_l2i, e_i2c, e_getF, e_getR, e_putF, e_putR, e_putz, e_ald, e_aldR, e_ast, e_astb, e_astz, e_asta, e_len, e_acopy, e_new, e_newa, e_mna, e_this, e_room, e_call0, e_callv0, e_call1, e_callv1, e_inv1, e_invv1, e_call2, e_callv2, e_inv2, e_invv2, e_call3, e_callv3, e_inv3, e_invv3, e_call4, e_callv4, e_inv4, e_invv4, e_call5, e_callv5, e_inv5, e_invv5, e_call6, e_callv6, e_inv6, e_invv6, e_call7, e_callv7, e_inv7, e_invv7, e_call8, e_callv8, e_inv8, e_invv8, e_ret, e_retz, e_retc, e_retb, e_retv, e_skip, e_sco, e_tlen, e_tat, e_iz_eq0, e_iz_eq1, e_iz_ne0, e_iz_ne1, add0, sc_d, sc_t, inI_e, inL_e, up_eq, true_or, or_true, or_false, false_or, and_true, true_and, not_false_eq_true, Int.reduceAdd, Int.reduceSub, Int.reduceMul, Int.reduceNeg, eb]
          | with_reducible first | refine izl_lt (fun hc => ?_) (fun hc => ?_) | refine izl_ge (fun hc => ?_) (fun hc => ?_) | refine izl_eq (fun hc => ?_) (fun hc => ?_) | refine ic_ge (fun hc => ?_) (fun hc => ?_) | refine ic_lt (fun hc => ?_) (fun hc => ?_) | refine ic_ne (fun hc => ?_) (fun hc => ?_) | refine ic_eq (fun hc => ?_) (fun hc => ?_) | refine ic_le (fun hc => ?_) (fun hc => ?_) | refine ic_gt (fun hc => ?_) (fun hc => ?_) | refine iz_eq (fun hc => ?_) (fun hc => ?_) | refine iz_ne (fun hc => ?_) (fun hc => ?_) | refine iz_lt (fun hc => ?_) (fun hc => ?_) | refine iz_ge (fun hc => ?_) (fun hc => ?_) | refine iz_gt (fun hc => ?_) (fun hc => ?_) | refine iz_le (fun hc => ?_) (fun hc => ?_) | refine iz_nu (fun hc => ?_) (fun hc => ?_) | refine iz_nn (fun hc => ?_) (fun hc => ?_)
          | omega
          | (exfalso; omega)
        all_goals exact ok
  clear hQ
  repeat' first
    | exact absurd hc (by decide)
    | simp (disch := omega) only [t_X10_goesOn, ue_X10_goesOn, zLg, zRf, zFq, zEl, zNz, zUf, zUe, zUr, zCe, zSn, gd_0, gd_1, gd_2, gd_3, gd_4, gd_5, gd_6, gd_7, gd_8, gd_9, gd_10, gd_11, gd_12, gd_13, gd_14, gd_15, gd_16, gd_17, gd_18, gd_19, se_0, se_1, se_2, se_3, se_4, se_5, se_6, se_7, se_8, se_9, se_10, se_11, se_12, se_13, se_14, se_15, se_16, se_17, se_18, se_19, e_const, e_load, e_store, e_iinc, e_dup, e_dup2, e_pop, e_iadd, e_isub, e_imul, e_ladd, e_lsub, e_lmul, e_iaddw, e_isubw, e_imulw, e_laddw, e_lsubw, e_lmulw, e_iand, e_ior, e_ishl, e_ishr, e_iushr, e_lcmp, e_imax, e_imin, e_idiv, e_irem, e_ldiv, e_lrem, e_i2l, e_i2b, e_l2i, e_i2c, e_getF, e_getR, e_putF, e_putR, e_putz, e_ald, e_aldR, e_ast, e_astb, e_astz, e_asta, e_len, e_acopy, e_new, e_newa, e_mna, e_this, e_room, e_call0, e_callv0, e_call1, e_callv1, e_inv1, e_invv1, e_call2, e_callv2, e_inv2, e_invv2, e_call3, e_callv3, e_inv3, e_invv3, e_call4, e_callv4, e_inv4, e_invv4, e_call5, e_callv5, e_inv5, e_invv5, e_call6, e_callv6, e_inv6, e_invv6, e_call7, e_callv7, e_inv7, e_invv7, e_call8, e_callv8, e_inv8, e_invv8, e_ret, e_retz, e_retc, e_retb, e_retv, e_skip, e_sco, e_tlen, e_tat, e_iz_eq0, e_iz_eq1, e_iz_ne0, e_iz_ne1, add0, sc_d, sc_t, inI_e, inL_e, up_eq, true_or, or_true, or_false, false_or, and_true, true_and, not_false_eq_true, Int.reduceAdd, Int.reduceSub, Int.reduceMul, Int.reduceNeg]
    | with_reducible first | refine izl_lt (fun hc => ?_) (fun hc => ?_) | refine izl_ge (fun hc => ?_) (fun hc => ?_) | refine izl_eq (fun hc => ?_) (fun hc => ?_) | refine ic_ge (fun hc => ?_) (fun hc => ?_) | refine ic_lt (fun hc => ?_) (fun hc => ?_) | refine ic_ne (fun hc => ?_) (fun hc => ?_) | refine ic_eq (fun hc => ?_) (fun hc => ?_) | refine ic_le (fun hc => ?_) (fun hc => ?_) | refine ic_gt (fun hc => ?_) (fun hc => ?_) | refine iz_eq (fun hc => ?_) (fun hc => ?_) | refine iz_ne (fun hc => ?_) (fun hc => ?_) | refine iz_lt (fun hc => ?_) (fun hc => ?_) | refine iz_ge (fun hc => ?_) (fun hc => ?_) | refine iz_gt (fun hc => ?_) (fun hc => ?_) | refine iz_le (fun hc => ?_) (fun hc => ?_) | refine iz_nu (fun hc => ?_) (fun hc => ?_) | refine iz_nn (fun hc => ?_) (fun hc => ?_)
    | omega
    | (exfalso; omega)
  all_goals exact key
theorem sM_goes5 (pm : 0 ≤ m) (h9 : F m 9 = 5) (hQ : Q 0 (L, R, F, E, N)) : T_X10_goesOn [m] (L, R, F, E, N) Q := by
  repeat' first
    | exact absurd hc (by decide)
    | simp (disch := omega) only [t_X10_goesOn, ue_X10_goesOn, zLg, zRf, zFq, zEl, zNz, zUf, zUe, zUr, zCe, zSn, gd_0, gd_1, gd_2, gd_3, gd_4, gd_5, gd_6, gd_7, gd_8, gd_9, gd_10, gd_11, gd_12, gd_13, gd_14, gd_15, gd_16, gd_17, gd_18, gd_19, se_0, se_1, se_2, se_3, se_4, se_5, se_6, se_7, se_8, se_9, se_10, se_11, se_12, se_13, se_14, se_15, se_16, se_17, se_18, se_19, e_const, e_load, e_store, e_iinc, e_dup, e_dup2, e_pop, e_iadd, e_isub, e_imul, e_ladd, e_lsub, e_lmul, e_iaddw, e_isubw, e_imulw, e_laddw, e_lsubw, e_lmulw, e_iand, e_ior, e_ishl, e_ishr, e_iushr, e_lcmp, e_imax, e_imin, e_idiv, e_irem, e_ldiv, e_lrem, e_i2l, e_i2b, e_l2i, e_i2c, e_getF, e_getR, e_putF, e_putR, e_putz, e_ald, e_aldR, e_ast, e_astb, e_astz, e_asta, e_len, e_acopy, e_new, e_newa, e_mna, e_this, e_room, e_call0, e_callv0, e_call1, e_callv1, e_inv1, e_invv1, e_call2, e_callv2, e_inv2, e_invv2, e_call3, e_callv3, e_inv3, e_invv3, e_call4, e_callv4, e_inv4, e_invv4, e_call5, e_callv5, e_inv5, e_invv5, e_call6, e_callv6, e_inv6, e_invv6, e_call7, e_callv7, e_inv7, e_invv7, e_call8, e_callv8, e_inv8, e_invv8, e_ret, e_retz, e_retc, e_retb, e_retv, e_skip, e_sco, e_tlen, e_tat, e_iz_eq0, e_iz_eq1, e_iz_ne0, e_iz_ne1, add0, sc_d, sc_t, inI_e, inL_e, up_eq, true_or, or_true, or_false, false_or, and_true, true_and, not_false_eq_true, Int.reduceAdd, Int.reduceSub, Int.reduceMul, Int.reduceNeg, h9]
    | with_reducible first | refine izl_lt (fun hc => ?_) (fun hc => ?_) | refine izl_ge (fun hc => ?_) (fun hc => ?_) | refine izl_eq (fun hc => ?_) (fun hc => ?_) | refine ic_ge (fun hc => ?_) (fun hc => ?_) | refine ic_lt (fun hc => ?_) (fun hc => ?_) | refine ic_ne (fun hc => ?_) (fun hc => ?_) | refine ic_eq (fun hc => ?_) (fun hc => ?_) | refine ic_le (fun hc => ?_) (fun hc => ?_) | refine ic_gt (fun hc => ?_) (fun hc => ?_) | refine iz_eq (fun hc => ?_) (fun hc => ?_) | refine iz_ne (fun hc => ?_) (fun hc => ?_) | refine iz_lt (fun hc => ?_) (fun hc => ?_) | refine iz_ge (fun hc => ?_) (fun hc => ?_) | refine iz_gt (fun hc => ?_) (fun hc => ?_) | refine iz_le (fun hc => ?_) (fun hc => ?_) | refine iz_nu (fun hc => ?_) (fun hc => ?_) | refine iz_nn (fun hc => ?_) (fun hc => ?_)
    | omega
    | (exfalso; omega)
  all_goals exact hQ
end TOKM

/-! ===== the reference's thief: the hours spread ===== -/
theorem mM.fx {m c : Int} {C : Cy} {F E E' : Int → Int → Int} (h : mM m c C F E) (h2 : ∀ b j : Int, (b = m + 2 ∨ c ≤ b) → E' b j = E b j) : mM m c C F E' := ⟨mm_0 h, mm_1 h, mm_2 h, mm_3 h, mm_4 h, fun g a b => (h2 _ _ (by omega)).trans (mm_w h g a b), fun g w a b x y => (h2 _ _ (by omega)).trans (mm_g h g w a b x y), fun g a b => (h2 _ _ (by omega)).trans (mm_s1 h g a b), fun g a b => (h2 _ _ (by omega)).trans (mm_s2 h g a b), fun g a b => (h2 _ _ (by omega)).trans (mm_c0 h g a b), fun g a b => (h2 _ _ (by omega)).trans (mm_c1 h g a b), fun g a b => (h2 _ _ (by omega)).trans (mm_k0 h g a b), fun g a b => (h2 _ _ (by omega)).trans (mm_k1 h g a b), fun g a b => (h2 _ _ (by omega)).trans (mm_k2 h g a b), fun g a b => (h2 _ _ (by omega)).trans (mm_k3 h g a b), fun g a b => (h2 _ _ (by omega)).trans (mm_k4 h g a b), fun g a b => (h2 _ _ (by omega)).trans (mm_k5 h g a b), fun g a b => (h2 _ _ (by omega)).trans (mm_k6 h g a b), fun g a b => (h2 _ _ (by omega)).trans (mm_o0 h g a b), fun g a b => (h2 _ _ (by omega)).trans (mm_o1 h g a b), fun g a b => (h2 _ _ (by omega)).trans (mm_o2 h g a b), fun g a b => (h2 _ _ (by omega)).trans (mm_o3 h g a b), fun g a b => (h2 _ _ (by omega)).trans (mm_o4 h g a b), fun g a b => (h2 _ _ (by omega)).trans (mm_o5 h g a b)⟩
def GM (C : Cy) (th : Int → Int) (u v c : Int) : Prop := (∃ r p q : Int, (0 ≤ r ∧ r < C 0 0 0) ∧ fitsR C th r ∧ (0 ≤ p ∧ p < 12) ∧ (0 ≤ q ∧ q < 12) ∧ (q = (p + 1) % 12 ∨ p = (q + 1) % 12) ∧ u = r * 12 + p ∧ v = r * 12 + q ∧ c = 1) ∨ ∃ g : Int, (0 ≤ g ∧ g < C 0 1 0) ∧ openP C th g ∧ c = hrsP C th g ∧ (u = spt C g ∧ v = spt C g + 12 ∨ u = spt C g + 12 ∧ v = spt C g)
theorem GM_in {C : Cy} (hW : ctW C) {th : Int → Int} (hth : thW th) (h3 : 1 ≤ th 3) : gin (GM C th) := by
  intro u v c h
  have b0 := cw_0 hW
  rcases h with ⟨r, p, q, h1, -, h2, h3, h4, h5, h6, h7⟩ | ⟨g, h1, -, h2, h4⟩
  · omega
  · have := hrs_1 hW hth h3 h1.1 h1.2
    have := spt_b hW h1.1 h1.2
    omega
/-- all together -/
def smN (A : Int → Int) : Nat → Int
  | 0 => 0
  | n + 1 => smN A n + A n
theorem smN_m {A B : Int → Int} : ∀ n : Nat, (∀ v : Int, 0 ≤ v → v < n → A v ≤ B v) → smN A n ≤ smN B n := by
  intro n
  induction n with
  | zero => intro _; exact Int.le_refl _
  | succ n ih =>
    intro h
    have a := ih (fun v x y => h v x (by omega))
    have b := h n (by omega) (by omega)
    unfold smN
    omega
theorem smN_l {A B : Int → Int} {w : Int} : ∀ n : Nat, (∀ v : Int, 0 ≤ v → v < n → A v ≤ B v) → 0 ≤ w → w < n → A w < B w → smN A n + 1 ≤ smN B n := by
  intro n
  induction n with
  | zero => intro _ a b; omega
  | succ n ih =>
    intro h a b l
    have b1 := h n (by omega) (by omega)
    unfold smN
    by_cases z : w = n
    · have := smN_m (A := A) (B := B) n (fun v x y => h v x (by omega))
      rw [z] at l
      omega
    · have := ih (fun v x y => h v x (by omega)) a (by omega) l
      omega
theorem smN_0 {A : Int → Int} : ∀ n : Nat, (∀ v : Int, 0 ≤ v → v < n → 0 ≤ A v) → 0 ≤ smN A n := by
  intro n
  induction n with
  | zero => intro _; exact Int.le_refl _
  | succ n ih =>
    intro h
    have a := ih (fun v x y => h v x (by omega))
    have b := h n (by omega) (by omega)
    unfold smN
    omega
/-- one round under way -/
def lwI (G : Int → Int → Int → Prop) (z : Int → Int) (x : Int) (E E0 E' : Int → Int → Int) (ch : Int) : Prop := (ch = 0 ∨ ch = 1) ∧ (∀ b j : Int, b ≠ x → E' b j = E b j) ∧ (∀ v : Int, 0 ≤ v → v < 72 → (0 ≤ E' x v ∧ E' x v ≤ E0 x v) ∧ Rch G z v (E' x v)) ∧ (ch = 0 → ∀ v : Int, 0 ≤ v → v < 72 → E' x v = E0 x v) ∧ (ch = 1 → smN (fun v => E' x v) 72 + 1 ≤ smN (fun v => E0 x v) 72)
section THIEFM
variable {L : Int → Int} {R F E : Int → Int → Int} {N : Nat} {Q : xQ} {m c x g : Int} {C : Cy} {th z : Int → Int}
theorem sM_lowers {v d : Int} (hx : 0 ≤ x) (hl : L x = 72) (v0 : 0 ≤ v) (v1 : v < 72) (h1 : d < E x v → Q 1 (L, R, F, up E x v d, N)) (h0 : ¬ d < E x v → Q 0 (L, R, F, E, N)) : T_X10_lowers [x, v, d] (L, R, F, E, N) Q := by
  repeat' first
    | exact absurd hc (by decide)
    | simp (disch := omega) only [ue_X10_lowers, t_X10_lowers, zLg, zRf, zFq, zEl, zNz, zUf, zUe, zUr, zCe, zSn, gd_0, gd_1, gd_2, gd_3, gd_4, gd_5, gd_6, gd_7, gd_8, gd_9, gd_10, gd_11, gd_12, gd_13, gd_14, gd_15, gd_16, gd_17, gd_18, gd_19, se_0, se_1, se_2, se_3, se_4, se_5, se_6, se_7, se_8, se_9, se_10, se_11, se_12, se_13, se_14, se_15, se_16, se_17, se_18, se_19, e_const, e_load, e_store, e_iinc, e_dup, e_dup2, e_pop, e_iadd, e_isub, e_imul, e_ladd, e_lsub, e_lmul, e_iaddw, e_isubw, e_imulw, e_laddw, e_lsubw, e_lmulw, e_iand, e_ior, e_ishl, e_ishr, e_iushr, e_lcmp, e_imax, e_imin, e_idiv, e_irem, e_ldiv, e_lrem, e_i2l, e_i2b, e_l2i, e_i2c, e_getF, e_getR, e_putF, e_putR, e_putz, e_ald, e_aldR, e_ast, e_astb, e_astz, e_asta, e_len, e_acopy, e_new, e_newa, e_mna, e_this, e_room, e_call0, e_callv0, e_call1, e_callv1, e_inv1, e_invv1, e_call2, e_callv2, e_inv2, e_invv2, e_call3, e_callv3, e_inv3, e_invv3, e_call4, e_callv4, e_inv4, e_invv4, e_call5, e_callv5, e_inv5, e_invv5, e_call6, e_callv6, e_inv6, e_invv6, e_call7, e_callv7, e_inv7, e_invv7, e_call8, e_callv8, e_inv8, e_invv8, e_ret, e_retz, e_retc, e_retb, e_retv, e_skip, e_sco, e_tlen, e_tat, e_iz_eq0, e_iz_eq1, e_iz_ne0, e_iz_ne1, add0, sc_d, sc_t, inI_e, inL_e, up_eq, true_or, or_true, or_false, false_or, and_true, true_and, not_false_eq_true, Int.reduceAdd, Int.reduceSub, Int.reduceMul, Int.reduceNeg, hl]
    | with_reducible first | refine izl_lt (fun hc => ?_) (fun hc => ?_) | refine izl_ge (fun hc => ?_) (fun hc => ?_) | refine izl_eq (fun hc => ?_) (fun hc => ?_) | refine ic_ge (fun hc => ?_) (fun hc => ?_) | refine ic_lt (fun hc => ?_) (fun hc => ?_) | refine ic_ne (fun hc => ?_) (fun hc => ?_) | refine ic_eq (fun hc => ?_) (fun hc => ?_) | refine ic_le (fun hc => ?_) (fun hc => ?_) | refine ic_gt (fun hc => ?_) (fun hc => ?_) | refine iz_eq (fun hc => ?_) (fun hc => ?_) | refine iz_ne (fun hc => ?_) (fun hc => ?_) | refine iz_lt (fun hc => ?_) (fun hc => ?_) | refine iz_ge (fun hc => ?_) (fun hc => ?_) | refine iz_gt (fun hc => ?_) (fun hc => ?_) | refine iz_le (fun hc => ?_) (fun hc => ?_) | refine iz_nu (fun hc => ?_) (fun hc => ?_) | refine iz_nn (fun hc => ?_) (fun hc => ?_)
    | omega
    | (exfalso; omega)
  · exact h1 hc
  · exact h0 (by omega)
theorem sM_lowI {G : Int → Int → Int → Prop} {E0 E1 : Int → Int → Int} {u v cs ch : Int} (hx : 0 ≤ x) (hl : L x = 72) (u0 : 0 ≤ u ∧ u < 72) (v0 : 0 ≤ v ∧ v < 72) (hz : ∀ v, 0 ≤ v → v < 72 → 0 ≤ E0 x v) (hcs : 1 ≤ cs) (hg : G u v cs) (hI : lwI G z x E E0 E1 ch)
    (hQ : ∀ (r : Int) (E2 : Int → Int → Int), lwI G z x E E0 E2 (bOr ch r) → (bOr ch r = 0 → ch = 0 ∧ E0 x v ≤ E0 x u + cs) → Q r (L, R, F, E2, N)) : T_X10_lowers [x, v, E1 x u + cs] (L, R, F, E1, N) Q := by
  obtain ⟨i1, i2, i3, i4, i5⟩ := hI
  have o00 : bOr 0 0 = 0 := by decide
  have o01 : bOr 0 1 = 1 := by decide
  have o10 : bOr 1 0 = 1 := by decide
  have o11 : bOr 1 1 = 1 := by decide
  have bu := i3 u u0.1 u0.2
  have bv := i3 v v0.1 v0.2
  refine sM_lowers hx hl v0.1 v0.2 (fun hlt => ?_) (fun hge => ?_)
  · have e1 : bOr ch 1 = 1 := by rcases i1 with w | w <;> rw [w] <;> assumption
    have hle : ∀ q : Int, 0 ≤ q → q < 72 → up E1 x v (E1 x u + cs) x q ≤ E1 x q := fun q a b => by
      by_cases zq : q = v
      · rw [zq, up_eq]; omega
      · rw [up_ne (by omega)]; omega
    refine hQ 1 _ ?_ (fun w => by omega)
    rw [e1]
    refine ⟨Or.inr rfl, fun b j w => (up_ne (by omega)).trans (i2 b j w), fun q a b => ?_, fun w => by omega, fun _ => ?_⟩
    · by_cases zq : q = v
      · rw [zq, up_eq]
        exact ⟨⟨by omega, by omega⟩, Rch_s bu.2 hg⟩
      · rw [up_ne (by omega)]; exact i3 q a b
    · have s1 := smN_l (A := fun q => up E1 x v (E1 x u + cs) x q) (B := fun q => E1 x q) (w := v) 72 (fun q a b => hle q a (by omega)) v0.1 (by omega) (by show up E1 x v (E1 x u + cs) x v < E1 x v; rw [up_eq]; exact hlt)
      have s2 := smN_m (A := fun q => E1 x q) (B := fun q => E0 x q) 72 (fun q a b => (i3 q a (by omega)).1.2)
      omega
  · have e1 : bOr ch 0 = ch := by rcases i1 with w | w <;> rw [w] <;> assumption
    refine hQ 0 _ ?_ (fun w => ?_)
    · rw [e1]; exact ⟨i1, i2, i3, i4, i5⟩
    · rw [e1] at w
      have := i4 w u u0.1 u0.2
      have := i4 w v v0.1 v0.2
      exact ⟨w, by omega⟩
theorem sM_spreads (hT : mtT m L R) (hTc : mcT c L R) (hRc : R m 3 = c) (hM : mM m c C F E) (hW : ctW C) (hmc : m + 16 < c) (hS : scM m th F) (hth : thW th) (h3 : 1 ≤ th 3) (hx : x = m + 12 ∨ x = m + 13) (hz : ∀ v, 0 ≤ z v ∧ z v ≤ 1048576) (hEz : ∀ v : Int, 0 ≤ v → v < 72 → E x v = z v)
    (hQ : ∀ E' : Int → Int → Int, (∀ b j : Int, b ≠ x → E' b j = E b j) → (∀ v : Int, 0 ≤ v → v < 72 → E' x v = dst (GM C th) z v) → Q 0 (L, R, F, E', N)) : T_X10_spreads [m, x] (L, R, F, E, N) Q := by
  have pm := mt_p hT
  have pc := mc_p hTc
  have b0 := cw_0 hW
  have b1 := cw_1 hW
  have lx : L x = 72 := by
    have l12 := mt_l12 hT
    have l13 := mt_l13 hT
    rcases hx with e | e <;> rw [e] <;> assumption
  have px : 0 ≤ x := by omega
  have hG := GM_in hW hth h3
  have hz0 : ∀ v, 0 ≤ z v := fun v => (hz v).1
  simp (disch := omega) only [t_X10_spreads, ue_X10_spreads, zLg, zRf, zFq, zEl, zNz, zUf, zUe, zUr, zCe, zSn, gd_0, gd_1, gd_2, gd_3, gd_4, gd_5, gd_6, gd_7, gd_8, gd_9, gd_10, gd_11, gd_12, gd_13, gd_14, gd_15, gd_16, gd_17, gd_18, gd_19, se_0, se_1, se_2, se_3, se_4, se_5, se_6, se_7, se_8, se_9, se_10, se_11, se_12, se_13, se_14, se_15, se_16, se_17, se_18, se_19, e_const, e_load, e_store, e_iinc, e_dup, e_dup2, e_pop, e_iadd, e_isub, e_imul, e_ladd, e_lsub, e_lmul, e_iaddw, e_isubw, e_imulw, e_laddw, e_lsubw, e_lmulw, e_iand, e_ior, e_ishl, e_ishr, e_iushr, e_lcmp, e_imax, e_imin, e_idiv, e_irem, e_ldiv, e_lrem, e_i2l, e_i2b, e_l2i, e_i2c, e_getF, e_getR, e_putF, e_putR, e_putz, e_ald, e_aldR, e_ast, e_astb, e_astz, e_asta, e_len, e_acopy, e_new, e_newa, e_mna, e_this, e_room, e_call0, e_callv0, e_call1, e_callv1, e_inv1, e_invv1, e_call2, e_callv2, e_inv2, e_invv2, e_call3, e_callv3, e_inv3, e_invv3, e_call4, e_callv4, e_inv4, e_invv4, e_call5, e_callv5, e_inv5, e_invv5, e_call6, e_callv6, e_inv6, e_invv6, e_call7, e_callv7, e_inv7, e_invv7, e_call8, e_callv8, e_inv8, e_invv8, e_ret, e_retz, e_retc, e_retb, e_retv, e_skip, e_sco, e_tlen, e_tat, e_iz_eq0, e_iz_eq1, e_iz_ne0, e_iz_ne1, add0, sc_d, sc_t, inI_e, inL_e, up_eq, true_or, or_true, or_false, false_or, and_true, true_and, not_false_eq_true, Int.reduceAdd, Int.reduceSub, Int.reduceMul, Int.reduceNeg]
  unfold L_X10_spreads_2
  refine lpw (fun n lo st h c s => ∃ (nr y3 y4 : Int) (E' : Int → Int → Int), lo = [m, x, nr, y3, y4] ∧ st = [] ∧ h = (L, R, F, E', N) ∧ smN (fun v => E' x v) 72 + nr ≤ n ∧ (nr = 0 ∨ nr = 1) ∧ (∀ b j : Int, b ≠ x → E' b j = E b j) ∧ (∀ v : Int, 0 ≤ v → v < 72 → (0 ≤ E' x v ∧ E' x v ≤ z v) ∧ Rch (GM C th) z v (E' x v)) ∧ (nr = 0 → ∀ v : Int, 0 ≤ v → v < 72 → E' x v = dst (GM C th) z v)) ?_ (n := (smN (fun v => E x v) 72 + 1).toNat) ⟨1, 0, 0, E, rfl, rfl, rfl, by omega, Or.inr rfl, fun _ _ _ => rfl, fun v u w => by rw [hEz v u w]; exact ⟨⟨(hz v).1, Int.le_refl _⟩, Rch_b⟩, fun w => by omega⟩
  rintro n k hk lo st h c9 s9 ⟨nr, y3, y4, E0, rfl, rfl, rfl, hsm, hnr01, hf0, hv0, hnr⟩
  by_cases hend : nr = 0
  · repeat' first
      | exact absurd hc (by decide)
      | simp (disch := omega) only [zLg, zRf, zFq, zEl, zNz, zUf, zUe, zUr, zCe, zSn, gd_0, gd_1, gd_2, gd_3, gd_4, gd_5, gd_6, gd_7, gd_8, gd_9, gd_10, gd_11, gd_12, gd_13, gd_14, gd_15, gd_16, gd_17, gd_18, gd_19, se_0, se_1, se_2, se_3, se_4, se_5, se_6, se_7, se_8, se_9, se_10, se_11, se_12, se_13, se_14, se_15, se_16, se_17, se_18, se_19, e_const, e_load, e_store, e_iinc, e_dup, e_dup2, e_pop, e_iadd, e_isub, e_imul, e_ladd, e_lsub, e_lmul, e_iaddw, e_isubw, e_imulw, e_laddw, e_lsubw, e_lmulw, e_iand, e_ior, e_ishl, e_ishr, e_iushr, e_lcmp, e_imax, e_imin, e_idiv, e_irem, e_ldiv, e_lrem, e_i2l, e_i2b, e_l2i, e_i2c, e_getF, e_getR, e_putF, e_putR, e_putz, e_ald, e_aldR, e_ast, e_astb, e_astz, e_asta, e_len, e_acopy, e_new, e_newa, e_mna, e_this, e_room, e_call0, e_callv0, e_call1, e_callv1, e_inv1, e_invv1, e_call2, e_callv2, e_inv2, e_invv2, e_call3, e_callv3, e_inv3, e_invv3, e_call4, e_callv4, e_inv4, e_invv4, e_call5, e_callv5, e_inv5, e_invv5, e_call6, e_callv6, e_inv6, e_invv6, e_call7, e_callv7, e_inv7, e_invv7, e_call8, e_callv8, e_inv8, e_invv8, e_ret, e_retz, e_retc, e_retb, e_retv, e_skip, e_sco, e_tlen, e_tat, e_iz_eq0, e_iz_eq1, e_iz_ne0, e_iz_ne1, add0, sc_d, sc_t, inI_e, inL_e, up_eq, true_or, or_true, or_false, false_or, and_true, true_and, not_false_eq_true, Int.reduceAdd, Int.reduceSub, Int.reduceMul, Int.reduceNeg]
      | with_reducible first | refine izl_lt (fun hc => ?_) (fun hc => ?_) | refine izl_ge (fun hc => ?_) (fun hc => ?_) | refine izl_eq (fun hc => ?_) (fun hc => ?_) | refine ic_ge (fun hc => ?_) (fun hc => ?_) | refine ic_lt (fun hc => ?_) (fun hc => ?_) | refine ic_ne (fun hc => ?_) (fun hc => ?_) | refine ic_eq (fun hc => ?_) (fun hc => ?_) | refine ic_le (fun hc => ?_) (fun hc => ?_) | refine ic_gt (fun hc => ?_) (fun hc => ?_) | refine iz_eq (fun hc => ?_) (fun hc => ?_) | refine iz_ne (fun hc => ?_) (fun hc => ?_) | refine iz_lt (fun hc => ?_) (fun hc => ?_) | refine iz_ge (fun hc => ?_) (fun hc => ?_) | refine iz_gt (fun hc => ?_) (fun hc => ?_) | refine iz_le (fun hc => ?_) (fun hc => ?_) | refine iz_nu (fun hc => ?_) (fun hc => ?_) | refine iz_nn (fun hc => ?_) (fun hc => ?_)
      | omega
      | (exfalso; omega)
    all_goals exact hQ E0 hf0 (hnr hend)
  · have hnn : ∀ v, 0 ≤ v → v < 72 → 0 ≤ E0 x v := fun v u w => (hv0 v u w).1.1
    have hsm0 := smN_0 (A := fun v => E0 x v) 72 (fun v u w => hnn v u (by omega))
    repeat' first
      | exact absurd hc (by decide)
      | simp (disch := omega) only [zLg, zRf, zFq, zEl, zNz, zUf, zUe, zUr, zCe, zSn, gd_0, gd_1, gd_2, gd_3, gd_4, gd_5, gd_6, gd_7, gd_8, gd_9, gd_10, gd_11, gd_12, gd_13, gd_14, gd_15, gd_16, gd_17, gd_18, gd_19, se_0, se_1, se_2, se_3, se_4, se_5, se_6, se_7, se_8, se_9, se_10, se_11, se_12, se_13, se_14, se_15, se_16, se_17, se_18, se_19, e_const, e_load, e_store, e_iinc, e_dup, e_dup2, e_pop, e_iadd, e_isub, e_imul, e_ladd, e_lsub, e_lmul, e_iaddw, e_isubw, e_imulw, e_laddw, e_lsubw, e_lmulw, e_iand, e_ior, e_ishl, e_ishr, e_iushr, e_lcmp, e_imax, e_imin, e_idiv, e_irem, e_ldiv, e_lrem, e_i2l, e_i2b, e_l2i, e_i2c, e_getF, e_getR, e_putF, e_putR, e_putz, e_ald, e_aldR, e_ast, e_astb, e_astz, e_asta, e_len, e_acopy, e_new, e_newa, e_mna, e_this, e_room, e_call0, e_callv0, e_call1, e_callv1, e_inv1, e_invv1, e_call2, e_callv2, e_inv2, e_invv2, e_call3, e_callv3, e_inv3, e_invv3, e_call4, e_callv4, e_inv4, e_invv4, e_call5, e_callv5, e_inv5, e_invv5, e_call6, e_callv6, e_inv6, e_invv6, e_call7, e_callv7, e_inv7, e_invv7, e_call8, e_callv8, e_inv8, e_invv8, e_ret, e_retz, e_retc, e_retb, e_retv, e_skip, e_sco, e_tlen, e_tat, e_iz_eq0, e_iz_eq1, e_iz_ne0, e_iz_ne1, add0, sc_d, sc_t, inI_e, inL_e, up_eq, true_or, or_true, or_false, false_or, and_true, true_and, not_false_eq_true, Int.reduceAdd, Int.reduceSub, Int.reduceMul, Int.reduceNeg]
      | with_reducible first | refine izl_lt (fun hc => ?_) (fun hc => ?_) | refine izl_ge (fun hc => ?_) (fun hc => ?_) | refine izl_eq (fun hc => ?_) (fun hc => ?_) | refine ic_ge (fun hc => ?_) (fun hc => ?_) | refine ic_lt (fun hc => ?_) (fun hc => ?_) | refine ic_ne (fun hc => ?_) (fun hc => ?_) | refine ic_eq (fun hc => ?_) (fun hc => ?_) | refine ic_le (fun hc => ?_) (fun hc => ?_) | refine ic_gt (fun hc => ?_) (fun hc => ?_) | refine iz_eq (fun hc => ?_) (fun hc => ?_) | refine iz_ne (fun hc => ?_) (fun hc => ?_) | refine iz_lt (fun hc => ?_) (fun hc => ?_) | refine iz_ge (fun hc => ?_) (fun hc => ?_) | refine iz_gt (fun hc => ?_) (fun hc => ?_) | refine iz_le (fun hc => ?_) (fun hc => ?_) | refine iz_nu (fun hc => ?_) (fun hc => ?_) | refine iz_nn (fun hc => ?_) (fun hc => ?_)
      | omega
      | (exfalso; omega)
    unfold L_X10_spreads_10
    refine lpw (fun n lo st h c s => ∃ (ch r y4 : Int) (E1 : Int → Int → Int), lo = [m, x, ch, r, y4] ∧ st = [] ∧ h = (L, R, F, E1, N) ∧ 0 ≤ r ∧ r ≤ C 0 0 0 ∧ (n : Int) = C 0 0 0 - r ∧ lwI (GM C th) z x E E0 E1 ch ∧ (ch = 0 → ∀ q p p' : Int, 0 ≤ q → q < r → fitsR C th q → 0 ≤ p → p < 12 → 0 ≤ p' → p' < 12 → (p' = (p + 1) % 12 ∨ p = (p' + 1) % 12) → E0 x (q * 12 + p') ≤ E0 x (q * 12 + p) + 1)) ?_ (n := (C 0 0 0).toNat) ⟨0, 0, _, E0, rfl, rfl, rfl, by omega, by omega, by omega, ⟨Or.inl rfl, hf0, fun v u w => ⟨⟨hnn v u w, Int.le_refl _⟩, (hv0 v u w).2⟩, fun _ _ _ _ => rfl, fun w => by omega⟩, fun _ q p p' u w => by omega⟩
    rintro n1 k1 hk1 lo st h c1 s1 ⟨ch, r, y4, E1, rfl, rfl, rfl, hr, hr2, hn2, hI1, hc1⟩
    have hM1 : mM m c C F E1 := hM.fx (fun b j w => hI1.2.1 b j (by omega))
    by_cases hrl : r < C 0 0 0
    · by_cases hfit : fitsR C th r
      · repeat' first
          | exact absurd hc (by decide)
          | with_reducible refine sM_fitsRing hT hTc hRc hM1 hW (sm_d hS) hth hr hrl (fun hq => ?_) (fun hq => ?_)
          | simp (disch := omega) only [zLg, zRf, zFq, zEl, zNz, zUf, zUe, zUr, zCe, zSn, gd_0, gd_1, gd_2, gd_3, gd_4, gd_5, gd_6, gd_7, gd_8, gd_9, gd_10, gd_11, gd_12, gd_13, gd_14, gd_15, gd_16, gd_17, gd_18, gd_19, se_0, se_1, se_2, se_3, se_4, se_5, se_6, se_7, se_8, se_9, se_10, se_11, se_12, se_13, se_14, se_15, se_16, se_17, se_18, se_19, e_const, e_load, e_store, e_iinc, e_dup, e_dup2, e_pop, e_iadd, e_isub, e_imul, e_ladd, e_lsub, e_lmul, e_iaddw, e_isubw, e_imulw, e_laddw, e_lsubw, e_lmulw, e_iand, e_ior, e_ishl, e_ishr, e_iushr, e_lcmp, e_imax, e_imin, e_idiv, e_irem, e_ldiv, e_lrem, e_i2l, e_i2b, e_l2i, e_i2c, e_getF, e_getR, e_putF, e_putR, e_putz, e_ald, e_aldR, e_ast, e_astb, e_astz, e_asta, e_len, e_acopy, e_new, e_newa, e_mna, e_this, e_room, e_call0, e_callv0, e_call1, e_callv1, e_inv1, e_invv1, e_call2, e_callv2, e_inv2, e_invv2, e_call3, e_callv3, e_inv3, e_invv3, e_call4, e_callv4, e_inv4, e_invv4, e_call5, e_callv5, e_inv5, e_invv5, e_call6, e_callv6, e_inv6, e_invv6, e_call7, e_callv7, e_inv7, e_invv7, e_call8, e_callv8, e_inv8, e_invv8, e_ret, e_retz, e_retc, e_retb, e_retv, e_skip, e_sco, e_tlen, e_tat, e_iz_eq0, e_iz_eq1, e_iz_ne0, e_iz_ne1, add0, sc_d, sc_t, inI_e, inL_e, up_eq, true_or, or_true, or_false, false_or, and_true, true_and, not_false_eq_true, Int.reduceAdd, Int.reduceSub, Int.reduceMul, Int.reduceNeg, hRc, mm_0 hM1]
          | with_reducible first | refine izl_lt (fun hc => ?_) (fun hc => ?_) | refine izl_ge (fun hc => ?_) (fun hc => ?_) | refine izl_eq (fun hc => ?_) (fun hc => ?_) | refine ic_ge (fun hc => ?_) (fun hc => ?_) | refine ic_lt (fun hc => ?_) (fun hc => ?_) | refine ic_ne (fun hc => ?_) (fun hc => ?_) | refine ic_eq (fun hc => ?_) (fun hc => ?_) | refine ic_le (fun hc => ?_) (fun hc => ?_) | refine ic_gt (fun hc => ?_) (fun hc => ?_) | refine iz_eq (fun hc => ?_) (fun hc => ?_) | refine iz_ne (fun hc => ?_) (fun hc => ?_) | refine iz_lt (fun hc => ?_) (fun hc => ?_) | refine iz_ge (fun hc => ?_) (fun hc => ?_) | refine iz_gt (fun hc => ?_) (fun hc => ?_) | refine iz_le (fun hc => ?_) (fun hc => ?_) | refine iz_nu (fun hc => ?_) (fun hc => ?_) | refine iz_nn (fun hc => ?_) (fun hc => ?_)
          | omega
          | (exfalso; omega)
        rotate_left
        · exact absurd hfit hq
        unfold L_X10_spreads_35
        refine lpw (fun n lo st h c s => ∃ (ch p : Int) (E2 : Int → Int → Int), lo = [m, x, ch, r, p] ∧ st = [] ∧ h = (L, R, F, E2, N) ∧ 0 ≤ p ∧ p ≤ 12 ∧ (n : Int) = 12 - p ∧ lwI (GM C th) z x E E0 E2 ch ∧ (ch = 0 → ∀ q p p' : Int, 0 ≤ q → q < r → fitsR C th q → 0 ≤ p → p < 12 → 0 ≤ p' → p' < 12 → (p' = (p + 1) % 12 ∨ p = (p' + 1) % 12) → E0 x (q * 12 + p') ≤ E0 x (q * 12 + p) + 1) ∧ (ch = 0 → ∀ q : Int, 0 ≤ q → q < p → E0 x (r * 12 + q) ≤ E0 x (r * 12 + (q + 1) % 12) + 1 ∧ E0 x (r * 12 + q) ≤ E0 x (r * 12 + (q + 12 - 1) % 12) + 1)) ?_ (n := 12) ⟨ch, 0, E1, rfl, rfl, rfl, by omega, by omega, by omega, hI1, hc1, fun _ q u w => by omega⟩
        rintro n2 k2 hk2 lo st h c2 s2 ⟨ch2, p, E2, rfl, rfl, rfl, hp, hp2, hn3, hI2, hc2, hd2⟩
        by_cases hpl : p < 12
        · have ea : 12 * r + p = r * 12 + p := by omega
          have eb : 12 * r + (p + 1) % 12 = r * 12 + (p + 1) % 12 := by omega
          have ec : 12 * r + (p + 12 - 1) % 12 = r * 12 + (p + 12 - 1) % 12 := by omega
          have bx1 := hI2.2.2.1 (r * 12 + (p + 1) % 12) (by omega) (by omega)
          have bx1' := bx1.1
          have by1 := (hv0 (r * 12 + (p + 1) % 12) (by omega) (by omega)).1
          have bz1 := hz (r * 12 + (p + 1) % 12)
          have by2 := (hv0 (r * 12 + (p + 12 - 1) % 12) (by omega) (by omega)).1
          have bz2 := hz (r * 12 + (p + 12 - 1) % 12)
          repeat' first
            | exact absurd hc (by decide)
            | simp (disch := omega) only [zLg, zRf, zFq, zEl, zNz, zUf, zUe, zUr, zCe, zSn, gd_0, gd_1, gd_2, gd_3, gd_4, gd_5, gd_6, gd_7, gd_8, gd_9, gd_10, gd_11, gd_12, gd_13, gd_14, gd_15, gd_16, gd_17, gd_18, gd_19, se_0, se_1, se_2, se_3, se_4, se_5, se_6, se_7, se_8, se_9, se_10, se_11, se_12, se_13, se_14, se_15, se_16, se_17, se_18, se_19, e_const, e_load, e_store, e_iinc, e_dup, e_dup2, e_pop, e_iadd, e_isub, e_imul, e_ladd, e_lsub, e_lmul, e_iaddw, e_isubw, e_imulw, e_laddw, e_lsubw, e_lmulw, e_iand, e_ior, e_ishl, e_ishr, e_iushr, e_lcmp, e_imax, e_imin, e_idiv, e_irem, e_ldiv, e_lrem, e_i2l, e_i2b, e_l2i, e_i2c, e_getF, e_getR, e_putF, e_putR, e_putz, e_ald, e_aldR, e_ast, e_astb, e_astz, e_asta, e_len, e_acopy, e_new, e_newa, e_mna, e_this, e_room, e_call0, e_callv0, e_call1, e_callv1, e_inv1, e_invv1, e_call2, e_callv2, e_inv2, e_invv2, e_call3, e_callv3, e_inv3, e_invv3, e_call4, e_callv4, e_inv4, e_invv4, e_call5, e_callv5, e_inv5, e_invv5, e_call6, e_callv6, e_inv6, e_invv6, e_call7, e_callv7, e_inv7, e_invv7, e_call8, e_callv8, e_inv8, e_invv8, e_ret, e_retz, e_retc, e_retb, e_retv, e_skip, e_sco, e_tlen, e_tat, e_iz_eq0, e_iz_eq1, e_iz_ne0, e_iz_ne1, add0, sc_d, sc_t, inI_e, inL_e, up_eq, true_or, or_true, or_false, false_or, and_true, true_and, not_false_eq_true, Int.reduceAdd, Int.reduceSub, Int.reduceMul, Int.reduceNeg, Int.tmod_eq_emod_of_nonneg, ea, eb, ec, lx]
            | with_reducible first | refine izl_lt (fun hc => ?_) (fun hc => ?_) | refine izl_ge (fun hc => ?_) (fun hc => ?_) | refine izl_eq (fun hc => ?_) (fun hc => ?_) | refine ic_ge (fun hc => ?_) (fun hc => ?_) | refine ic_lt (fun hc => ?_) (fun hc => ?_) | refine ic_ne (fun hc => ?_) (fun hc => ?_) | refine ic_eq (fun hc => ?_) (fun hc => ?_) | refine ic_le (fun hc => ?_) (fun hc => ?_) | refine ic_gt (fun hc => ?_) (fun hc => ?_) | refine iz_eq (fun hc => ?_) (fun hc => ?_) | refine iz_ne (fun hc => ?_) (fun hc => ?_) | refine iz_lt (fun hc => ?_) (fun hc => ?_) | refine iz_ge (fun hc => ?_) (fun hc => ?_) | refine iz_gt (fun hc => ?_) (fun hc => ?_) | refine iz_le (fun hc => ?_) (fun hc => ?_) | refine iz_nu (fun hc => ?_) (fun hc => ?_) | refine iz_nn (fun hc => ?_) (fun hc => ?_)
            | omega
            | (exfalso; omega)
          refine sM_lowI (G := GM C th) (z := z) (E := E) (u := r * 12 + (p + 1) % 12) px lx (by omega) (by omega) hnn (by omega) (Or.inl ⟨r, (p + 1) % 12, p, ⟨hr, hrl⟩, hfit, by omega, by omega, by omega, rfl, rfl, rfl⟩) hI2 fun r1 E3 hI3 ho3 => ?_
          have bx3 := (hI3.2.2.1 (r * 12 + (p + 12 - 1) % 12) (by omega) (by omega)).1
          try simp (disch := omega) only [zLg, zRf, zFq, zEl, zNz, zUf, zUe, zUr, zCe, zSn, gd_0, gd_1, gd_2, gd_3, gd_4, gd_5, gd_6, gd_7, gd_8, gd_9, gd_10, gd_11, gd_12, gd_13, gd_14, gd_15, gd_16, gd_17, gd_18, gd_19, se_0, se_1, se_2, se_3, se_4, se_5, se_6, se_7, se_8, se_9, se_10, se_11, se_12, se_13, se_14, se_15, se_16, se_17, se_18, se_19, e_const, e_load, e_store, e_iinc, e_dup, e_dup2, e_pop, e_iadd, e_isub, e_imul, e_ladd, e_lsub, e_lmul, e_iaddw, e_isubw, e_imulw, e_laddw, e_lsubw, e_lmulw, e_iand, e_ior, e_ishl, e_ishr, e_iushr, e_lcmp, e_imax, e_imin, e_idiv, e_irem, e_ldiv, e_lrem, e_i2l, e_i2b, e_l2i, e_i2c, e_getF, e_getR, e_putF, e_putR, e_putz, e_ald, e_aldR, e_ast, e_astb, e_astz, e_asta, e_len, e_acopy, e_new, e_newa, e_mna, e_this, e_room, e_call0, e_callv0, e_call1, e_callv1, e_inv1, e_invv1, e_call2, e_callv2, e_inv2, e_invv2, e_call3, e_callv3, e_inv3, e_invv3, e_call4, e_callv4, e_inv4, e_invv4, e_call5, e_callv5, e_inv5, e_invv5, e_call6, e_callv6, e_inv6, e_invv6, e_call7, e_callv7, e_inv7, e_invv7, e_call8, e_callv8, e_inv8, e_invv8, e_ret, e_retz, e_retc, e_retb, e_retv, e_skip, e_sco, e_tlen, e_tat, e_iz_eq0, e_iz_eq1, e_iz_ne0, e_iz_ne1, add0, sc_d, sc_t, inI_e, inL_e, up_eq, true_or, or_true, or_false, false_or, and_true, true_and, not_false_eq_true, Int.reduceAdd, Int.reduceSub, Int.reduceMul, Int.reduceNeg, Int.tmod_eq_emod_of_nonneg, ea, eb, ec, lx]
          refine sM_lowI (G := GM C th) (z := z) (E := E) (u := r * 12 + (p + 12 - 1) % 12) px lx (by omega) (by omega) hnn (by omega) (Or.inl ⟨r, (p + 12 - 1) % 12, p, ⟨hr, hrl⟩, hfit, by omega, by omega, by omega, rfl, rfl, rfl⟩) hI3 fun r2 E4 hI4 ho4 => ?_
          try simp (disch := omega) only [zLg, zRf, zFq, zEl, zNz, zUf, zUe, zUr, zCe, zSn, gd_0, gd_1, gd_2, gd_3, gd_4, gd_5, gd_6, gd_7, gd_8, gd_9, gd_10, gd_11, gd_12, gd_13, gd_14, gd_15, gd_16, gd_17, gd_18, gd_19, se_0, se_1, se_2, se_3, se_4, se_5, se_6, se_7, se_8, se_9, se_10, se_11, se_12, se_13, se_14, se_15, se_16, se_17, se_18, se_19, e_const, e_load, e_store, e_iinc, e_dup, e_dup2, e_pop, e_iadd, e_isub, e_imul, e_ladd, e_lsub, e_lmul, e_iaddw, e_isubw, e_imulw, e_laddw, e_lsubw, e_lmulw, e_iand, e_ior, e_ishl, e_ishr, e_iushr, e_lcmp, e_imax, e_imin, e_idiv, e_irem, e_ldiv, e_lrem, e_i2l, e_i2b, e_l2i, e_i2c, e_getF, e_getR, e_putF, e_putR, e_putz, e_ald, e_aldR, e_ast, e_astb, e_astz, e_asta, e_len, e_acopy, e_new, e_newa, e_mna, e_this, e_room, e_call0, e_callv0, e_call1, e_callv1, e_inv1, e_invv1, e_call2, e_callv2, e_inv2, e_invv2, e_call3, e_callv3, e_inv3, e_invv3, e_call4, e_callv4, e_inv4, e_invv4, e_call5, e_callv5, e_inv5, e_invv5, e_call6, e_callv6, e_inv6, e_invv6, e_call7, e_callv7, e_inv7, e_invv7, e_call8, e_callv8, e_inv8, e_invv8, e_ret, e_retz, e_retc, e_retb, e_retv, e_skip, e_sco, e_tlen, e_tat, e_iz_eq0, e_iz_eq1, e_iz_ne0, e_iz_ne1, add0, sc_d, sc_t, inI_e, inL_e, up_eq, true_or, or_true, or_false, false_or, and_true, true_and, not_false_eq_true, Int.reduceAdd, Int.reduceSub, Int.reduceMul, Int.reduceNeg]
          refine hk2 (n2 - 1) _ _ _ _ _ (by omega) ⟨_, p + 1, E4, rfl, rfl, rfl, by omega, by omega, by omega, hI4, fun w => hc2 (ho3 (ho4 w).1).1, fun w q u v => ?_⟩
          have w4 := ho4 w
          have w3 := ho3 w4.1
          by_cases zq : q = p
          · rw [zq]; exact ⟨w3.2, w4.2⟩
          · exact hd2 w3.1 q u (by omega)
        · have hpe : p = 12 := by omega
          subst hpe
          repeat' first
            | exact absurd hc (by decide)
            | simp (disch := omega) only [ub_X10_spreads_111, zLg, zRf, zFq, zEl, zNz, zUf, zUe, zUr, zCe, zSn, gd_0, gd_1, gd_2, gd_3, gd_4, gd_5, gd_6, gd_7, gd_8, gd_9, gd_10, gd_11, gd_12, gd_13, gd_14, gd_15, gd_16, gd_17, gd_18, gd_19, se_0, se_1, se_2, se_3, se_4, se_5, se_6, se_7, se_8, se_9, se_10, se_11, se_12, se_13, se_14, se_15, se_16, se_17, se_18, se_19, e_const, e_load, e_store, e_iinc, e_dup, e_dup2, e_pop, e_iadd, e_isub, e_imul, e_ladd, e_lsub, e_lmul, e_iaddw, e_isubw, e_imulw, e_laddw, e_lsubw, e_lmulw, e_iand, e_ior, e_ishl, e_ishr, e_iushr, e_lcmp, e_imax, e_imin, e_idiv, e_irem, e_ldiv, e_lrem, e_i2l, e_i2b, e_l2i, e_i2c, e_getF, e_getR, e_putF, e_putR, e_putz, e_ald, e_aldR, e_ast, e_astb, e_astz, e_asta, e_len, e_acopy, e_new, e_newa, e_mna, e_this, e_room, e_call0, e_callv0, e_call1, e_callv1, e_inv1, e_invv1, e_call2, e_callv2, e_inv2, e_invv2, e_call3, e_callv3, e_inv3, e_invv3, e_call4, e_callv4, e_inv4, e_invv4, e_call5, e_callv5, e_inv5, e_invv5, e_call6, e_callv6, e_inv6, e_invv6, e_call7, e_callv7, e_inv7, e_invv7, e_call8, e_callv8, e_inv8, e_invv8, e_ret, e_retz, e_retc, e_retb, e_retv, e_skip, e_sco, e_tlen, e_tat, e_iz_eq0, e_iz_eq1, e_iz_ne0, e_iz_ne1, add0, sc_d, sc_t, inI_e, inL_e, up_eq, true_or, or_true, or_false, false_or, and_true, true_and, not_false_eq_true, Int.reduceAdd, Int.reduceSub, Int.reduceMul, Int.reduceNeg]
            | with_reducible first | refine izl_lt (fun hc => ?_) (fun hc => ?_) | refine izl_ge (fun hc => ?_) (fun hc => ?_) | refine izl_eq (fun hc => ?_) (fun hc => ?_) | refine ic_ge (fun hc => ?_) (fun hc => ?_) | refine ic_lt (fun hc => ?_) (fun hc => ?_) | refine ic_ne (fun hc => ?_) (fun hc => ?_) | refine ic_eq (fun hc => ?_) (fun hc => ?_) | refine ic_le (fun hc => ?_) (fun hc => ?_) | refine ic_gt (fun hc => ?_) (fun hc => ?_) | refine iz_eq (fun hc => ?_) (fun hc => ?_) | refine iz_ne (fun hc => ?_) (fun hc => ?_) | refine iz_lt (fun hc => ?_) (fun hc => ?_) | refine iz_ge (fun hc => ?_) (fun hc => ?_) | refine iz_gt (fun hc => ?_) (fun hc => ?_) | refine iz_le (fun hc => ?_) (fun hc => ?_) | refine iz_nu (fun hc => ?_) (fun hc => ?_) | refine iz_nn (fun hc => ?_) (fun hc => ?_)
            | omega
            | (exfalso; omega)
          refine hk1 (n1 - 1) _ _ _ _ _ (by omega) ⟨ch2, r + 1, _, E2, rfl, rfl, rfl, by omega, by omega, by omega, hI2, fun w q p p' u v fq p0 p1 q0 q1 hd => ?_⟩
          by_cases zq : q = r
          · rw [zq]
            have d1 := hd2 w p' q0 q1
            rcases hd with e | e
            · have e' : (p' + 12 - 1) % 12 = p := by omega
              rw [e'] at d1
              exact d1.2
            · rw [← e] at d1
              exact d1.1
          · exact hc2 w q p p' u (by omega) fq p0 p1 q0 q1 hd
      · repeat' first
          | exact absurd hc (by decide)
          | with_reducible refine sM_fitsRing hT hTc hRc hM1 hW (sm_d hS) hth hr hrl (fun hq => ?_) (fun hq => ?_)
          | simp (disch := omega) only [ub_X10_spreads_111, zLg, zRf, zFq, zEl, zNz, zUf, zUe, zUr, zCe, zSn, gd_0, gd_1, gd_2, gd_3, gd_4, gd_5, gd_6, gd_7, gd_8, gd_9, gd_10, gd_11, gd_12, gd_13, gd_14, gd_15, gd_16, gd_17, gd_18, gd_19, se_0, se_1, se_2, se_3, se_4, se_5, se_6, se_7, se_8, se_9, se_10, se_11, se_12, se_13, se_14, se_15, se_16, se_17, se_18, se_19, e_const, e_load, e_store, e_iinc, e_dup, e_dup2, e_pop, e_iadd, e_isub, e_imul, e_ladd, e_lsub, e_lmul, e_iaddw, e_isubw, e_imulw, e_laddw, e_lsubw, e_lmulw, e_iand, e_ior, e_ishl, e_ishr, e_iushr, e_lcmp, e_imax, e_imin, e_idiv, e_irem, e_ldiv, e_lrem, e_i2l, e_i2b, e_l2i, e_i2c, e_getF, e_getR, e_putF, e_putR, e_putz, e_ald, e_aldR, e_ast, e_astb, e_astz, e_asta, e_len, e_acopy, e_new, e_newa, e_mna, e_this, e_room, e_call0, e_callv0, e_call1, e_callv1, e_inv1, e_invv1, e_call2, e_callv2, e_inv2, e_invv2, e_call3, e_callv3, e_inv3, e_invv3, e_call4, e_callv4, e_inv4, e_invv4, e_call5, e_callv5, e_inv5, e_invv5, e_call6, e_callv6, e_inv6, e_invv6, e_call7, e_callv7, e_inv7, e_invv7, e_call8, e_callv8, e_inv8, e_invv8, e_ret, e_retz, e_retc, e_retb, e_retv, e_skip, e_sco, e_tlen, e_tat, e_iz_eq0, e_iz_eq1, e_iz_ne0, e_iz_ne1, add0, sc_d, sc_t, inI_e, inL_e, up_eq, true_or, or_true, or_false, false_or, and_true, true_and, not_false_eq_true, Int.reduceAdd, Int.reduceSub, Int.reduceMul, Int.reduceNeg, hRc, mm_0 hM1]
          | with_reducible first | refine izl_lt (fun hc => ?_) (fun hc => ?_) | refine izl_ge (fun hc => ?_) (fun hc => ?_) | refine izl_eq (fun hc => ?_) (fun hc => ?_) | refine ic_ge (fun hc => ?_) (fun hc => ?_) | refine ic_lt (fun hc => ?_) (fun hc => ?_) | refine ic_ne (fun hc => ?_) (fun hc => ?_) | refine ic_eq (fun hc => ?_) (fun hc => ?_) | refine ic_le (fun hc => ?_) (fun hc => ?_) | refine ic_gt (fun hc => ?_) (fun hc => ?_) | refine iz_eq (fun hc => ?_) (fun hc => ?_) | refine iz_ne (fun hc => ?_) (fun hc => ?_) | refine iz_lt (fun hc => ?_) (fun hc => ?_) | refine iz_ge (fun hc => ?_) (fun hc => ?_) | refine iz_gt (fun hc => ?_) (fun hc => ?_) | refine iz_le (fun hc => ?_) (fun hc => ?_) | refine iz_nu (fun hc => ?_) (fun hc => ?_) | refine iz_nn (fun hc => ?_) (fun hc => ?_)
          | omega
          | (exfalso; omega)
        all_goals first
          | exact absurd hq hfit
          | skip
        refine hk1 (n1 - 1) _ _ _ _ _ (by omega) ⟨ch, r + 1, _, E1, rfl, rfl, rfl, by omega, by omega, by omega, hI1, fun w q p p' u v fq p0 p1 q0 q1 hd => ?_⟩
        by_cases zq : q = r
        · rw [zq] at fq; exact absurd fq hfit
        · exact hc1 w q p p' u (by omega) fq p0 p1 q0 q1 hd
    · have hre : r = C 0 0 0 := by omega
      subst hre
      repeat' first
        | exact absurd hc (by decide)
        | simp (disch := omega) only [zLg, zRf, zFq, zEl, zNz, zUf, zUe, zUr, zCe, zSn, gd_0, gd_1, gd_2, gd_3, gd_4, gd_5, gd_6, gd_7, gd_8, gd_9, gd_10, gd_11, gd_12, gd_13, gd_14, gd_15, gd_16, gd_17, gd_18, gd_19, se_0, se_1, se_2, se_3, se_4, se_5, se_6, se_7, se_8, se_9, se_10, se_11, se_12, se_13, se_14, se_15, se_16, se_17, se_18, se_19, e_const, e_load, e_store, e_iinc, e_dup, e_dup2, e_pop, e_iadd, e_isub, e_imul, e_ladd, e_lsub, e_lmul, e_iaddw, e_isubw, e_imulw, e_laddw, e_lsubw, e_lmulw, e_iand, e_ior, e_ishl, e_ishr, e_iushr, e_lcmp, e_imax, e_imin, e_idiv, e_irem, e_ldiv, e_lrem, e_i2l, e_i2b, e_l2i, e_i2c, e_getF, e_getR, e_putF, e_putR, e_putz, e_ald, e_aldR, e_ast, e_astb, e_astz, e_asta, e_len, e_acopy, e_new, e_newa, e_mna, e_this, e_room, e_call0, e_callv0, e_call1, e_callv1, e_inv1, e_invv1, e_call2, e_callv2, e_inv2, e_invv2, e_call3, e_callv3, e_inv3, e_invv3, e_call4, e_callv4, e_inv4, e_invv4, e_call5, e_callv5, e_inv5, e_invv5, e_call6, e_callv6, e_inv6, e_invv6, e_call7, e_callv7, e_inv7, e_invv7, e_call8, e_callv8, e_inv8, e_invv8, e_ret, e_retz, e_retc, e_retb, e_retv, e_skip, e_sco, e_tlen, e_tat, e_iz_eq0, e_iz_eq1, e_iz_ne0, e_iz_ne1, add0, sc_d, sc_t, inI_e, inL_e, up_eq, true_or, or_true, or_false, false_or, and_true, true_and, not_false_eq_true, Int.reduceAdd, Int.reduceSub, Int.reduceMul, Int.reduceNeg, hRc, mm_0 hM1]
        | with_reducible first | refine izl_lt (fun hc => ?_) (fun hc => ?_) | refine izl_ge (fun hc => ?_) (fun hc => ?_) | refine izl_eq (fun hc => ?_) (fun hc => ?_) | refine ic_ge (fun hc => ?_) (fun hc => ?_) | refine ic_lt (fun hc => ?_) (fun hc => ?_) | refine ic_ne (fun hc => ?_) (fun hc => ?_) | refine ic_eq (fun hc => ?_) (fun hc => ?_) | refine ic_le (fun hc => ?_) (fun hc => ?_) | refine ic_gt (fun hc => ?_) (fun hc => ?_) | refine iz_eq (fun hc => ?_) (fun hc => ?_) | refine iz_ne (fun hc => ?_) (fun hc => ?_) | refine iz_lt (fun hc => ?_) (fun hc => ?_) | refine iz_ge (fun hc => ?_) (fun hc => ?_) | refine iz_gt (fun hc => ?_) (fun hc => ?_) | refine iz_le (fun hc => ?_) (fun hc => ?_) | refine iz_nu (fun hc => ?_) (fun hc => ?_) | refine iz_nn (fun hc => ?_) (fun hc => ?_)
        | omega
        | (exfalso; omega)
      unfold L_X10_spreads_119
      refine lpw (fun n lo st h c s => ∃ (ch j y4 : Int) (E2 : Int → Int → Int), lo = [m, x, ch, j, y4] ∧ st = [] ∧ h = (L, R, F, E2, N) ∧ 0 ≤ j ∧ j ≤ C 0 1 0 ∧ (n : Int) = C 0 1 0 - j ∧ lwI (GM C th) z x E E0 E2 ch ∧ (ch = 0 → ∀ q p p' : Int, 0 ≤ q → q < C 0 0 0 → fitsR C th q → 0 ≤ p → p < 12 → 0 ≤ p' → p' < 12 → (p' = (p + 1) % 12 ∨ p = (p' + 1) % 12) → E0 x (q * 12 + p') ≤ E0 x (q * 12 + p) + 1) ∧ (ch = 0 → ∀ g : Int, 0 ≤ g → g < j → openP C th g → E0 x (spt C g) ≤ E0 x (spt C g + 12) + hrsP C th g ∧ E0 x (spt C g + 12) ≤ E0 x (spt C g) + hrsP C th g)) ?_ (n := (C 0 1 0).toNat) ⟨ch, 0, _, E1, rfl, rfl, rfl, by omega, by omega, by omega, hI1, hc1, fun _ g u w => by omega⟩
      rintro n2 k2 hk2 lo st h c2 s2 ⟨ch2, j, y5, E2, rfl, rfl, rfl, hj, hj2, hn3, hI2, hc2, hd2⟩
      have hM2 : mM m c C F E2 := hM.fx (fun b j w => hI2.2.1 b j (by omega))
      by_cases hjl : j < C 0 1 0
      · have sb := spt_b hW hj hjl
        have es : 12 * C 2 j 0 + C 2 j 1 = spt C j := by unfold spt; omega
        have g0 := cw_g0 hW j hj hjl
        have g1 := cw_g1 hW j hj hjl
        have h1 := hrs_1 hW hth h3 hj hjl
        have hb := hrsB hW hth hj hjl
        by_cases ho : openP C th j
        · have bx1 := (hI2.2.2.1 (spt C j + 12) (by omega) (by omega)).1
          have by1 := (hv0 (spt C j + 12) (by omega) (by omega)).1
          have bz1 := hz (spt C j + 12)
          have by2 := (hv0 (spt C j) (by omega) (by omega)).1
          have bz2 := hz (spt C j)
          repeat' first
            | exact absurd hc (by decide)
            | with_reducible refine sM_goesThrough hT hTc hRc hM2 hW (sm_d hS) hth hj hjl (fun hq => ?_) (fun hq => ?_)
            | with_reducible refine sM_of hT hM2 hW hj hjl ?_ ?_ ?_
            | with_reducible refine sM_hoursAt hT hM2 hW hS hth hj hjl ?_
            | simp (disch := omega) only [zLg, zRf, zFq, zEl, zNz, zUf, zUe, zUr, zCe, zSn, gd_0, gd_1, gd_2, gd_3, gd_4, gd_5, gd_6, gd_7, gd_8, gd_9, gd_10, gd_11, gd_12, gd_13, gd_14, gd_15, gd_16, gd_17, gd_18, gd_19, se_0, se_1, se_2, se_3, se_4, se_5, se_6, se_7, se_8, se_9, se_10, se_11, se_12, se_13, se_14, se_15, se_16, se_17, se_18, se_19, e_const, e_load, e_store, e_iinc, e_dup, e_dup2, e_pop, e_iadd, e_isub, e_imul, e_ladd, e_lsub, e_lmul, e_iaddw, e_isubw, e_imulw, e_laddw, e_lsubw, e_lmulw, e_iand, e_ior, e_ishl, e_ishr, e_iushr, e_lcmp, e_imax, e_imin, e_idiv, e_irem, e_ldiv, e_lrem, e_i2l, e_i2b, e_l2i, e_i2c, e_getF, e_getR, e_putF, e_putR, e_putz, e_ald, e_aldR, e_ast, e_astb, e_astz, e_asta, e_len, e_acopy, e_new, e_newa, e_mna, e_this, e_room, e_call0, e_callv0, e_call1, e_callv1, e_inv1, e_invv1, e_call2, e_callv2, e_inv2, e_invv2, e_call3, e_callv3, e_inv3, e_invv3, e_call4, e_callv4, e_inv4, e_invv4, e_call5, e_callv5, e_inv5, e_invv5, e_call6, e_callv6, e_inv6, e_invv6, e_call7, e_callv7, e_inv7, e_invv7, e_call8, e_callv8, e_inv8, e_invv8, e_ret, e_retz, e_retc, e_retb, e_retv, e_skip, e_sco, e_tlen, e_tat, e_iz_eq0, e_iz_eq1, e_iz_ne0, e_iz_ne1, add0, sc_d, sc_t, inI_e, inL_e, up_eq, true_or, or_true, or_false, false_or, and_true, true_and, not_false_eq_true, Int.reduceAdd, Int.reduceSub, Int.reduceMul, Int.reduceNeg, mm_1 hM2, es, lx]
            | with_reducible first | refine izl_lt (fun hc => ?_) (fun hc => ?_) | refine izl_ge (fun hc => ?_) (fun hc => ?_) | refine izl_eq (fun hc => ?_) (fun hc => ?_) | refine ic_ge (fun hc => ?_) (fun hc => ?_) | refine ic_lt (fun hc => ?_) (fun hc => ?_) | refine ic_ne (fun hc => ?_) (fun hc => ?_) | refine ic_eq (fun hc => ?_) (fun hc => ?_) | refine ic_le (fun hc => ?_) (fun hc => ?_) | refine ic_gt (fun hc => ?_) (fun hc => ?_) | refine iz_eq (fun hc => ?_) (fun hc => ?_) | refine iz_ne (fun hc => ?_) (fun hc => ?_) | refine iz_lt (fun hc => ?_) (fun hc => ?_) | refine iz_ge (fun hc => ?_) (fun hc => ?_) | refine iz_gt (fun hc => ?_) (fun hc => ?_) | refine iz_le (fun hc => ?_) (fun hc => ?_) | refine iz_nu (fun hc => ?_) (fun hc => ?_) | refine iz_nn (fun hc => ?_) (fun hc => ?_)
            | omega
            | (exfalso; omega)
          all_goals first
            | exact absurd ho hq
            | skip
          refine sM_lowI (G := GM C th) (z := z) (E := E) (u := spt C j + 12) px lx (by omega) (by omega) hnn h1 (Or.inr ⟨j, ⟨hj, hjl⟩, ho, rfl, Or.inr ⟨rfl, rfl⟩⟩) hI2 fun r1 E3 hI3 ho3 => ?_
          have hM3 : mM m c C F E3 := hM.fx (fun b j w => hI3.2.1 b j (by omega))
          have bx3 := (hI3.2.2.1 (spt C j) (by omega) (by omega)).1
          repeat' first
            | exact absurd hc (by decide)
            | with_reducible refine sM_hoursAt hT hM3 hW hS hth hj hjl ?_
            | simp (disch := omega) only [zLg, zRf, zFq, zEl, zNz, zUf, zUe, zUr, zCe, zSn, gd_0, gd_1, gd_2, gd_3, gd_4, gd_5, gd_6, gd_7, gd_8, gd_9, gd_10, gd_11, gd_12, gd_13, gd_14, gd_15, gd_16, gd_17, gd_18, gd_19, se_0, se_1, se_2, se_3, se_4, se_5, se_6, se_7, se_8, se_9, se_10, se_11, se_12, se_13, se_14, se_15, se_16, se_17, se_18, se_19, e_const, e_load, e_store, e_iinc, e_dup, e_dup2, e_pop, e_iadd, e_isub, e_imul, e_ladd, e_lsub, e_lmul, e_iaddw, e_isubw, e_imulw, e_laddw, e_lsubw, e_lmulw, e_iand, e_ior, e_ishl, e_ishr, e_iushr, e_lcmp, e_imax, e_imin, e_idiv, e_irem, e_ldiv, e_lrem, e_i2l, e_i2b, e_l2i, e_i2c, e_getF, e_getR, e_putF, e_putR, e_putz, e_ald, e_aldR, e_ast, e_astb, e_astz, e_asta, e_len, e_acopy, e_new, e_newa, e_mna, e_this, e_room, e_call0, e_callv0, e_call1, e_callv1, e_inv1, e_invv1, e_call2, e_callv2, e_inv2, e_invv2, e_call3, e_callv3, e_inv3, e_invv3, e_call4, e_callv4, e_inv4, e_invv4, e_call5, e_callv5, e_inv5, e_invv5, e_call6, e_callv6, e_inv6, e_invv6, e_call7, e_callv7, e_inv7, e_invv7, e_call8, e_callv8, e_inv8, e_invv8, e_ret, e_retz, e_retc, e_retb, e_retv, e_skip, e_sco, e_tlen, e_tat, e_iz_eq0, e_iz_eq1, e_iz_ne0, e_iz_ne1, add0, sc_d, sc_t, inI_e, inL_e, up_eq, true_or, or_true, or_false, false_or, and_true, true_and, not_false_eq_true, Int.reduceAdd, Int.reduceSub, Int.reduceMul, Int.reduceNeg, lx]
            | with_reducible first | refine izl_lt (fun hc => ?_) (fun hc => ?_) | refine izl_ge (fun hc => ?_) (fun hc => ?_) | refine izl_eq (fun hc => ?_) (fun hc => ?_) | refine ic_ge (fun hc => ?_) (fun hc => ?_) | refine ic_lt (fun hc => ?_) (fun hc => ?_) | refine ic_ne (fun hc => ?_) (fun hc => ?_) | refine ic_eq (fun hc => ?_) (fun hc => ?_) | refine ic_le (fun hc => ?_) (fun hc => ?_) | refine ic_gt (fun hc => ?_) (fun hc => ?_) | refine iz_eq (fun hc => ?_) (fun hc => ?_) | refine iz_ne (fun hc => ?_) (fun hc => ?_) | refine iz_lt (fun hc => ?_) (fun hc => ?_) | refine iz_ge (fun hc => ?_) (fun hc => ?_) | refine iz_gt (fun hc => ?_) (fun hc => ?_) | refine iz_le (fun hc => ?_) (fun hc => ?_) | refine iz_nu (fun hc => ?_) (fun hc => ?_) | refine iz_nn (fun hc => ?_) (fun hc => ?_)
            | omega
            | (exfalso; omega)
          refine sM_lowI (G := GM C th) (z := z) (E := E) (u := spt C j) px lx (by omega) (by omega) hnn h1 (Or.inr ⟨j, ⟨hj, hjl⟩, ho, rfl, Or.inl ⟨rfl, rfl⟩⟩) hI3 fun r2 E4 hI4 ho4 => ?_
          try simp (disch := omega) only [ub_X10_spreads_200, zLg, zRf, zFq, zEl, zNz, zUf, zUe, zUr, zCe, zSn, gd_0, gd_1, gd_2, gd_3, gd_4, gd_5, gd_6, gd_7, gd_8, gd_9, gd_10, gd_11, gd_12, gd_13, gd_14, gd_15, gd_16, gd_17, gd_18, gd_19, se_0, se_1, se_2, se_3, se_4, se_5, se_6, se_7, se_8, se_9, se_10, se_11, se_12, se_13, se_14, se_15, se_16, se_17, se_18, se_19, e_const, e_load, e_store, e_iinc, e_dup, e_dup2, e_pop, e_iadd, e_isub, e_imul, e_ladd, e_lsub, e_lmul, e_iaddw, e_isubw, e_imulw, e_laddw, e_lsubw, e_lmulw, e_iand, e_ior, e_ishl, e_ishr, e_iushr, e_lcmp, e_imax, e_imin, e_idiv, e_irem, e_ldiv, e_lrem, e_i2l, e_i2b, e_l2i, e_i2c, e_getF, e_getR, e_putF, e_putR, e_putz, e_ald, e_aldR, e_ast, e_astb, e_astz, e_asta, e_len, e_acopy, e_new, e_newa, e_mna, e_this, e_room, e_call0, e_callv0, e_call1, e_callv1, e_inv1, e_invv1, e_call2, e_callv2, e_inv2, e_invv2, e_call3, e_callv3, e_inv3, e_invv3, e_call4, e_callv4, e_inv4, e_invv4, e_call5, e_callv5, e_inv5, e_invv5, e_call6, e_callv6, e_inv6, e_invv6, e_call7, e_callv7, e_inv7, e_invv7, e_call8, e_callv8, e_inv8, e_invv8, e_ret, e_retz, e_retc, e_retb, e_retv, e_skip, e_sco, e_tlen, e_tat, e_iz_eq0, e_iz_eq1, e_iz_ne0, e_iz_ne1, add0, sc_d, sc_t, inI_e, inL_e, up_eq, true_or, or_true, or_false, false_or, and_true, true_and, not_false_eq_true, Int.reduceAdd, Int.reduceSub, Int.reduceMul, Int.reduceNeg]
          refine hk2 (n2 - 1) _ _ _ _ _ (by omega) ⟨_, j + 1, _, E4, rfl, rfl, rfl, by omega, by omega, by omega, hI4, fun w => hc2 (ho3 (ho4 w).1).1, fun w q u v oq => ?_⟩
          have w4 := ho4 w
          have w3 := ho3 w4.1
          by_cases zq : q = j
          · rw [zq]; exact ⟨w3.2, w4.2⟩
          · exact hd2 w3.1 q u (by omega) oq
        · repeat' first
            | exact absurd hc (by decide)
            | with_reducible refine sM_goesThrough hT hTc hRc hM2 hW (sm_d hS) hth hj hjl (fun hq => ?_) (fun hq => ?_)
            | simp (disch := omega) only [ub_X10_spreads_200, zLg, zRf, zFq, zEl, zNz, zUf, zUe, zUr, zCe, zSn, gd_0, gd_1, gd_2, gd_3, gd_4, gd_5, gd_6, gd_7, gd_8, gd_9, gd_10, gd_11, gd_12, gd_13, gd_14, gd_15, gd_16, gd_17, gd_18, gd_19, se_0, se_1, se_2, se_3, se_4, se_5, se_6, se_7, se_8, se_9, se_10, se_11, se_12, se_13, se_14, se_15, se_16, se_17, se_18, se_19, e_const, e_load, e_store, e_iinc, e_dup, e_dup2, e_pop, e_iadd, e_isub, e_imul, e_ladd, e_lsub, e_lmul, e_iaddw, e_isubw, e_imulw, e_laddw, e_lsubw, e_lmulw, e_iand, e_ior, e_ishl, e_ishr, e_iushr, e_lcmp, e_imax, e_imin, e_idiv, e_irem, e_ldiv, e_lrem, e_i2l, e_i2b, e_l2i, e_i2c, e_getF, e_getR, e_putF, e_putR, e_putz, e_ald, e_aldR, e_ast, e_astb, e_astz, e_asta, e_len, e_acopy, e_new, e_newa, e_mna, e_this, e_room, e_call0, e_callv0, e_call1, e_callv1, e_inv1, e_invv1, e_call2, e_callv2, e_inv2, e_invv2, e_call3, e_callv3, e_inv3, e_invv3, e_call4, e_callv4, e_inv4, e_invv4, e_call5, e_callv5, e_inv5, e_invv5, e_call6, e_callv6, e_inv6, e_invv6, e_call7, e_callv7, e_inv7, e_invv7, e_call8, e_callv8, e_inv8, e_invv8, e_ret, e_retz, e_retc, e_retb, e_retv, e_skip, e_sco, e_tlen, e_tat, e_iz_eq0, e_iz_eq1, e_iz_ne0, e_iz_ne1, add0, sc_d, sc_t, inI_e, inL_e, up_eq, true_or, or_true, or_false, false_or, and_true, true_and, not_false_eq_true, Int.reduceAdd, Int.reduceSub, Int.reduceMul, Int.reduceNeg, mm_1 hM2]
            | with_reducible first | refine izl_lt (fun hc => ?_) (fun hc => ?_) | refine izl_ge (fun hc => ?_) (fun hc => ?_) | refine izl_eq (fun hc => ?_) (fun hc => ?_) | refine ic_ge (fun hc => ?_) (fun hc => ?_) | refine ic_lt (fun hc => ?_) (fun hc => ?_) | refine ic_ne (fun hc => ?_) (fun hc => ?_) | refine ic_eq (fun hc => ?_) (fun hc => ?_) | refine ic_le (fun hc => ?_) (fun hc => ?_) | refine ic_gt (fun hc => ?_) (fun hc => ?_) | refine iz_eq (fun hc => ?_) (fun hc => ?_) | refine iz_ne (fun hc => ?_) (fun hc => ?_) | refine iz_lt (fun hc => ?_) (fun hc => ?_) | refine iz_ge (fun hc => ?_) (fun hc => ?_) | refine iz_gt (fun hc => ?_) (fun hc => ?_) | refine iz_le (fun hc => ?_) (fun hc => ?_) | refine iz_nu (fun hc => ?_) (fun hc => ?_) | refine iz_nn (fun hc => ?_) (fun hc => ?_)
            | omega
            | (exfalso; omega)
          all_goals first
            | exact absurd hq ho
            | skip
          refine hk2 (n2 - 1) _ _ _ _ _ (by omega) ⟨ch2, j + 1, _, E2, rfl, rfl, rfl, by omega, by omega, by omega, hI2, hc2, fun w q u v oq => ?_⟩
          by_cases zq : q = j
          · rw [zq] at oq; exact absurd oq ho
          · exact hd2 w q u (by omega) oq
      · have hje : j = C 0 1 0 := by omega
        subst hje
        obtain ⟨i1, i2, i3, i4, i5⟩ := hI2
        repeat' first
          | exact absurd hc (by decide)
          | simp (disch := omega) only [zLg, zRf, zFq, zEl, zNz, zUf, zUe, zUr, zCe, zSn, gd_0, gd_1, gd_2, gd_3, gd_4, gd_5, gd_6, gd_7, gd_8, gd_9, gd_10, gd_11, gd_12, gd_13, gd_14, gd_15, gd_16, gd_17, gd_18, gd_19, se_0, se_1, se_2, se_3, se_4, se_5, se_6, se_7, se_8, se_9, se_10, se_11, se_12, se_13, se_14, se_15, se_16, se_17, se_18, se_19, e_const, e_load, e_store, e_iinc, e_dup, e_dup2, e_pop, e_iadd, e_isub, e_imul, e_ladd, e_lsub, e_lmul, e_iaddw, e_isubw, e_imulw, e_laddw, e_lsubw, e_lmulw, e_iand, e_ior, e_ishl, e_ishr, e_iushr, e_lcmp, e_imax, e_imin, e_idiv, e_irem, e_ldiv, e_lrem, e_i2l, e_i2b, e_l2i, e_i2c, e_getF, e_getR, e_putF, e_putR, e_putz, e_ald, e_aldR, e_ast, e_astb, e_astz, e_asta, e_len, e_acopy, e_new, e_newa, e_mna, e_this, e_room, e_call0, e_callv0, e_call1, e_callv1, e_inv1, e_invv1, e_call2, e_callv2, e_inv2, e_invv2, e_call3, e_callv3, e_inv3, e_invv3, e_call4, e_callv4, e_inv4, e_invv4, e_call5, e_callv5, e_inv5, e_invv5, e_call6, e_callv6, e_inv6, e_invv6, e_call7, e_callv7, e_inv7, e_invv7, e_call8, e_callv8, e_inv8, e_invv8, e_ret, e_retz, e_retc, e_retb, e_retv, e_skip, e_sco, e_tlen, e_tat, e_iz_eq0, e_iz_eq1, e_iz_ne0, e_iz_ne1, add0, sc_d, sc_t, inI_e, inL_e, up_eq, true_or, or_true, or_false, false_or, and_true, true_and, not_false_eq_true, Int.reduceAdd, Int.reduceSub, Int.reduceMul, Int.reduceNeg, mm_1 hM2]
          | with_reducible first | refine izl_lt (fun hc => ?_) (fun hc => ?_) | refine izl_ge (fun hc => ?_) (fun hc => ?_) | refine izl_eq (fun hc => ?_) (fun hc => ?_) | refine ic_ge (fun hc => ?_) (fun hc => ?_) | refine ic_lt (fun hc => ?_) (fun hc => ?_) | refine ic_ne (fun hc => ?_) (fun hc => ?_) | refine ic_eq (fun hc => ?_) (fun hc => ?_) | refine ic_le (fun hc => ?_) (fun hc => ?_) | refine ic_gt (fun hc => ?_) (fun hc => ?_) | refine iz_eq (fun hc => ?_) (fun hc => ?_) | refine iz_ne (fun hc => ?_) (fun hc => ?_) | refine iz_lt (fun hc => ?_) (fun hc => ?_) | refine iz_ge (fun hc => ?_) (fun hc => ?_) | refine iz_gt (fun hc => ?_) (fun hc => ?_) | refine iz_le (fun hc => ?_) (fun hc => ?_) | refine iz_nu (fun hc => ?_) (fun hc => ?_) | refine iz_nn (fun hc => ?_) (fun hc => ?_)
          | omega
          | (exfalso; omega)
        have s2 := smN_m (A := fun v => E2 x v) (B := fun v => E0 x v) 72 (fun v u w => (i3 v u (by omega)).1.2)
        refine hk (n - 1) _ _ _ _ _ (by omega) ⟨ch2, _, _, E2, rfl, rfl, rfl, ?_, i1, i2, fun v u w => ⟨⟨(i3 v u w).1.1, by have := (i3 v u w).1.2; have := (hv0 v u w).1.2; omega⟩, (i3 v u w).2⟩, fun w => ?_⟩
        · rcases i1 with w | w
          · omega
          · have := i5 w
            omega
        · have he := i4 w
          refine cls (A := fun v => E2 x v) hz0 hG (fun v u w => by show E2 x v ≤ z v; have := (i3 v u w).1.2; have := (hv0 v u w).1.2; omega) (fun v u w => (i3 v u w).2) (fun u v cc hgc => ?_)
          have c3 := (hG u v cc hgc).2
          show E2 x v ≤ E2 x u + cc
          rw [he u c3.1.1 c3.1.2, he v c3.2.1 c3.2.2]
          rcases hgc with ⟨r, p, q, g1, gf, g2, g3, g4, g5, g6, g7⟩ | ⟨g, g1, go, g2, g3⟩
          · subst g5 g6 g7
            exact hc2 w r p q g1.1 g1.2 gf g2.1 g2.2 g3.1 g3.2 g4
          · subst g2
            have c1 := hd2 w g g1.1 g1.2 go
            rcases g3 with ⟨e1, e2⟩ | ⟨e1, e2⟩ <;> rw [e1, e2] <;> omega
end THIEFM

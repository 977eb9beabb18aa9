/-! ===== twice round a ring ===== -/
def rI (a0 a : Int → Int) (i j : Int) : Prop := (∀ q, 0 ≤ q → q < 12 → a q ≤ a0 q) ∧ (∀ q, 0 ≤ q → q < 12 → ∃ r m, 0 ≤ r ∧ r < 12 ∧ a q = a0 r + m ∧ rnd r q ≤ m) ∧ (∀ r k, 0 ≤ r → r < 12 → 0 ≤ k → k ≤ 12 → r + k ≤ i → a ((r + k) % 12) ≤ a0 r + k) ∧ (∀ r k, 0 ≤ r → r < 12 → 0 ≤ k → k ≤ 12 → r + k ≤ j → a (11 - (r + k) % 12) ≤ a0 (11 - r) + k)
theorem rnd_0 {q : Int} : rnd q q = 0 := by
  unfold rnd
  repeat' split
  all_goals omega
theorem rnd_s {r p q : Int} (h0 : 0 ≤ r) (h1 : r < 12) (h2 : 0 ≤ p) (h3 : p < 12) (h4 : 0 ≤ q) (h5 : q < 12) (h : q = (p + 1) % 12 ∨ p = (q + 1) % 12) : rnd r q ≤ rnd r p + 1 := by
  unfold rnd
  repeat' split
  all_goals omega
theorem rI_0 {a : Int → Int} : rI a a 0 0 := by
  refine ⟨fun _ _ _ => Int.le_refl _, fun q x y => ⟨q, 0, x, y, by omega, by rw [rnd_0]; omega⟩, fun r k x y u v z => ?_, fun r k x y u v z => ?_⟩
  · have e1 : r = 0 := by omega
    have e2 : k = 0 := by omega
    subst e1 e2
    have e : ((0 : Int) + 0) % 12 = 0 := by omega
    rw [e]
    omega
  · have e1 : r = 0 := by omega
    have e2 : k = 0 := by omega
    subst e1 e2
    have e : (11 : Int) - (0 + 0) % 12 = 11 - 0 := by omega
    rw [e]
    omega
theorem rI_at {a0 a a' : Int → Int} {p q0 : Int} (h : ∀ q, 0 ≤ q → q < 12 → ∃ r m, 0 ≤ r ∧ r < 12 ∧ a q = a0 r + m ∧ rnd r q ≤ m) (hp : 0 ≤ p ∧ p < 12) (hq : 0 ≤ q0 ∧ q0 < 12) (hd : q0 = (p + 1) % 12 ∨ p = (q0 + 1) % 12) (h1 : ∀ q, 0 ≤ q → q < 12 → (a' q = a q ∨ (q = q0 ∧ a' q = a p + 1 ∧ a' q < a q))) : ∀ q, 0 ≤ q → q < 12 → ∃ r m, 0 ≤ r ∧ r < 12 ∧ a' q = a0 r + m ∧ rnd r q ≤ m := by
  intro q x y
  rcases h1 q x y with e | ⟨e1, e2, -⟩
  · obtain ⟨r, m, z1, z2, z3, z4⟩ := h q x y
    exact ⟨r, m, z1, z2, by omega, z4⟩
  · obtain ⟨r, m, z1, z2, z3, z4⟩ := h p hp.1 hp.2
    have := rnd_s z1 z2 hp.1 hp.2 hq.1 hq.2 hd
    refine ⟨r, m + 1, z1, z2, by omega, ?_⟩
    rw [e1]
    omega
theorem rI_f {a0 a a' : Int → Int} {i j : Int} (h : rI a0 a i j) (hi : 0 ≤ i) (h1 : ∀ q, 0 ≤ q → q < 12 → (a' q = a q ∨ (q = (i + 1) % 12 ∧ a' q = a (i % 12) + 1 ∧ a' q < a q))) (h2 : a' ((i + 1) % 12) ≤ a (i % 12) + 1) : rI a0 a' (i + 1) j := by
  obtain ⟨m1, at1, f1, b1⟩ := h
  have le : ∀ q, 0 ≤ q → q < 12 → a' q ≤ a q := fun q x y => by rcases h1 q x y with e | ⟨-, -, e⟩ <;> omega
  refine ⟨fun q x y => by have := le q x y; have := m1 q x y; omega, rI_at at1 (by omega) (by omega) (Or.inl (by omega)) h1, fun r k x y u v z => ?_, fun r k x y u v z => ?_⟩
  · by_cases w : r + k ≤ i
    · have c1 := le ((r + k) % 12) (by omega) (by omega)
      have c2 := f1 r k x y u v w
      omega
    · have e : r + k = i + 1 := by omega
      by_cases wk : k = 0
      · have e2 : (r + k) % 12 = r := by omega
        rw [e2]
        have c1 := le r x y
        have c2 := m1 r x y
        omega
      · have c2 := f1 r (k - 1) x y (by omega) (by omega) (by omega)
        have e3 : r + (k - 1) = i := by omega
        rw [e3] at c2
        rw [e]
        omega
  · have c1 := le (11 - (r + k) % 12) (by omega) (by omega)
    have c2 := b1 r k x y u v z
    omega
theorem rI_g {a0 a a' : Int → Int} {i j : Int} (h : rI a0 a i j) (hj : 0 ≤ j) (h1 : ∀ q, 0 ≤ q → q < 12 → (a' q = a q ∨ (q = 11 - (j + 1) % 12 ∧ a' q = a (11 - j % 12) + 1 ∧ a' q < a q))) (h2 : a' (11 - (j + 1) % 12) ≤ a (11 - j % 12) + 1) : rI a0 a' i (j + 1) := by
  obtain ⟨m1, at1, f1, b1⟩ := h
  have le : ∀ q, 0 ≤ q → q < 12 → a' q ≤ a q := fun q x y => by rcases h1 q x y with e | ⟨-, -, e⟩ <;> omega
  refine ⟨fun q x y => by have := le q x y; have := m1 q x y; omega, rI_at at1 (by omega) (by omega) (Or.inr (by omega)) h1, fun r k x y u v z => ?_, fun r k x y u v z => ?_⟩
  · have c1 := le ((r + k) % 12) (by omega) (by omega)
    have c2 := f1 r k x y u v z
    omega
  · by_cases w : r + k ≤ j
    · have c1 := le (11 - (r + k) % 12) (by omega) (by omega)
      have c2 := b1 r k x y u v w
      omega
    · have e : r + k = j + 1 := by omega
      by_cases wk : k = 0
      · have e2 : (r + k) % 12 = r := by omega
        rw [e2]
        have c1 := le (11 - r) (by omega) (by omega)
        have c2 := m1 (11 - r) (by omega) (by omega)
        omega
      · have c2 := b1 r (k - 1) x y (by omega) (by omega) (by omega)
        have e3 : r + (k - 1) = j := by omega
        rw [e3] at c2
        rw [e]
        omega
theorem rI_c {a0 a : Int → Int} (h : rI a0 a 24 24) {p q : Int} (h2 : 0 ≤ p) (h3 : p < 12) (h4 : 0 ≤ q) (h5 : q < 12) (hd : q = (p + 1) % 12 ∨ p = (q + 1) % 12) : a q ≤ a p + 1 := by
  obtain ⟨m1, at1, f1, b1⟩ := h
  obtain ⟨r, m, z1, z2, z3, z4⟩ := at1 p h2 h3
  have s := rnd_s z1 z2 h2 h3 h4 h5 hd
  have key : a q ≤ a0 r + rnd r q := by
    have c1 := f1 r ((q - r) % 12) z1 z2 (by omega) (by omega) (by omega)
    have c2 := b1 (11 - r) ((r - q) % 12) (by omega) (by omega) (by omega) (by omega) (by omega)
    have e1 : (r + (q - r) % 12) % 12 = q := by omega
    have e2 : 11 - (11 - r + (r - q) % 12) % 12 = q := by omega
    have e3 : 11 - (11 - r) = r := by omega
    rw [e1] at c1
    rw [e2, e3] at c2
    unfold rnd
    repeat' split
    all_goals omega
  omega
section RING
variable {L : Int → Int} {R F E : Int → Int → Int} {N : Nat} {Q : xQ}
theorem sX_shorten {x u v far : Int} (hx : 0 ≤ x) (hl : L x = 72) (u0 : 0 ≤ u) (u1 : u < 72) (v0 : 0 ≤ v) (v1 : v < 72) (b0 : 0 ≤ E x u) (b1 : E x u ≤ 100000) (f0 : 0 ≤ far) (f1 : far ≤ 100000) (h1 : E x u + far < E x v → Q 1 (L, R, F, up E x v (E x u + far), N)) (h0 : ¬ E x u + far < E x v → Q 0 (L, R, F, E, N)) : T_X5_shorten [x, u, v, far] (L, R, F, E, N) Q := by
  repeat' first
    | exact absurd hc (by decide)
    | simp (disch := omega) only [ue_X5_shorten, t_X5_shorten, zLg, zRf, zFq, zEl, zNz, zUf, zUe, zUr, zCe, zSn, gd_0, gd_1, gd_2, gd_3, gd_4, gd_5, gd_6, gd_7, gd_8, gd_9, gd_10, gd_11, gd_12, gd_13, gd_14, gd_15, gd_16, gd_17, gd_18, gd_19, se_0, se_1, se_2, se_3, se_4, se_5, se_6, se_7, se_8, se_9, se_10, se_11, se_12, se_13, se_14, se_15, se_16, se_17, se_18, se_19, e_const, e_load, e_store, e_iinc, e_dup, e_dup2, e_pop, e_iadd, e_isub, e_imul, e_ladd, e_lsub, e_lmul, e_iaddw, e_isubw, e_imulw, e_laddw, e_lsubw, e_lmulw, e_iand, e_ior, e_ishl, e_ishr, e_iushr, e_lcmp, e_imax, e_imin, e_idiv, e_irem, e_ldiv, e_lrem, e_i2l, e_i2b, e_l2i, e_i2c, e_getF, e_getR, e_putF, e_putR, e_putz, e_ald, e_aldR, e_ast, e_astb, e_astz, e_asta, e_len, e_acopy, e_new, e_newa, e_mna, e_this, e_room, e_call0, e_callv0, e_call1, e_callv1, e_inv1, e_invv1, e_call2, e_callv2, e_inv2, e_invv2, e_call3, e_callv3, e_inv3, e_invv3, e_call4, e_callv4, e_inv4, e_invv4, e_call5, e_callv5, e_inv5, e_invv5, e_call6, e_callv6, e_inv6, e_invv6, e_call7, e_callv7, e_inv7, e_invv7, e_call8, e_callv8, e_inv8, e_invv8, e_ret, e_retz, e_retc, e_retb, e_retv, e_skip, e_sco, e_tlen, e_tat, e_iz_eq0, e_iz_eq1, e_iz_ne0, e_iz_ne1, add0, sc_d, sc_t, inI_e, inL_e, up_eq, true_or, or_true, or_false, false_or, and_true, true_and, not_false_eq_true, Int.reduceAdd, Int.reduceSub, Int.reduceMul, Int.reduceNeg, hl]
    | with_reducible first | refine izl_lt (fun hc => ?_) (fun hc => ?_) | refine izl_ge (fun hc => ?_) (fun hc => ?_) | refine izl_eq (fun hc => ?_) (fun hc => ?_) | refine ic_ge (fun hc => ?_) (fun hc => ?_) | refine ic_lt (fun hc => ?_) (fun hc => ?_) | refine ic_ne (fun hc => ?_) (fun hc => ?_) | refine ic_eq (fun hc => ?_) (fun hc => ?_) | refine ic_le (fun hc => ?_) (fun hc => ?_) | refine ic_gt (fun hc => ?_) (fun hc => ?_) | refine iz_eq (fun hc => ?_) (fun hc => ?_) | refine iz_ne (fun hc => ?_) (fun hc => ?_) | refine iz_lt (fun hc => ?_) (fun hc => ?_) | refine iz_ge (fun hc => ?_) (fun hc => ?_) | refine iz_gt (fun hc => ?_) (fun hc => ?_) | refine iz_le (fun hc => ?_) (fun hc => ?_) | refine iz_nu (fun hc => ?_) (fun hc => ?_) | refine iz_nn (fun hc => ?_) (fun hc => ?_)
    | omega
    | (exfalso; omega)
  · exact h1 hc
  · exact h0 (by omega)
theorem sX_spreadRound {x base : Int} {G : Int → Int → Int → Prop} {z : Int → Int} (hx : 0 ≤ x) (hl : L x = 72) (hb : 0 ≤ base) (hb2 : base ≤ 60) (hv : ∀ v : Int, 0 ≤ v → v < 72 → (0 ≤ E x v ∧ E x v ≤ 100000) ∧ Rch G z v (E x v)) (hg : ∀ p q : Int, 0 ≤ p → p < 12 → 0 ≤ q → q < 12 → (q = (p + 1) % 12 ∨ p = (q + 1) % 12) → G (base + p) (base + q) 1)
    (hQ : ∀ E' : Int → Int → Int, (∀ b j : Int, (b ≠ x ∨ j < base ∨ base + 12 ≤ j) → E' b j = E b j) → (∀ v : Int, 0 ≤ v → v < 72 → (0 ≤ E' x v ∧ E' x v ≤ E x v) ∧ Rch G z v (E' x v)) → (∀ p q : Int, 0 ≤ p → p < 12 → 0 ≤ q → q < 12 → (q = (p + 1) % 12 ∨ p = (q + 1) % 12) → E' x (base + q) ≤ E' x (base + p) + 1) → Q 0 (L, R, F, E', N)) : T_X5_spreadRound [base, x] (L, R, F, E, N) Q := by
  simp (disch := omega) only [t_X5_spreadRound, ue_X5_spreadRound, zLg, zRf, zFq, zEl, zNz, zUf, zUe, zUr, zCe, zSn, gd_0, gd_1, gd_2, gd_3, gd_4, gd_5, gd_6, gd_7, gd_8, gd_9, gd_10, gd_11, gd_12, gd_13, gd_14, gd_15, gd_16, gd_17, gd_18, gd_19, se_0, se_1, se_2, se_3, se_4, se_5, se_6, se_7, se_8, se_9, se_10, se_11, se_12, se_13, se_14, se_15, se_16, se_17, se_18, se_19, e_const, e_load, e_store, e_iinc, e_dup, e_dup2, e_pop, e_iadd, e_isub, e_imul, e_ladd, e_lsub, e_lmul, e_iaddw, e_isubw, e_imulw, e_laddw, e_lsubw, e_lmulw, e_iand, e_ior, e_ishl, e_ishr, e_iushr, e_lcmp, e_imax, e_imin, e_idiv, e_irem, e_ldiv, e_lrem, e_i2l, e_i2b, e_l2i, e_i2c, e_getF, e_getR, e_putF, e_putR, e_putz, e_ald, e_aldR, e_ast, e_astb, e_astz, e_asta, e_len, e_acopy, e_new, e_newa, e_mna, e_this, e_room, e_call0, e_callv0, e_call1, e_callv1, e_inv1, e_invv1, e_call2, e_callv2, e_inv2, e_invv2, e_call3, e_callv3, e_inv3, e_invv3, e_call4, e_callv4, e_inv4, e_invv4, e_call5, e_callv5, e_inv5, e_invv5, e_call6, e_callv6, e_inv6, e_invv6, e_call7, e_callv7, e_inv7, e_invv7, e_call8, e_callv8, e_inv8, e_invv8, e_ret, e_retz, e_retc, e_retb, e_retv, e_skip, e_sco, e_tlen, e_tat, e_iz_eq0, e_iz_eq1, e_iz_ne0, e_iz_ne1, add0, sc_d, sc_t, inI_e, inL_e, up_eq, true_or, or_true, or_false, false_or, and_true, true_and, not_false_eq_true, Int.reduceAdd, Int.reduceSub, Int.reduceMul, Int.reduceNeg]
  unfold L_X5_spreadRound_2
  refine lpw (fun n lo st h c s => ∃ (i y3 y4 : Int) (E' : Int → Int → Int), lo = [base, x, i, y3, y4] ∧ st = [] ∧ h = (L, R, F, E', N) ∧ 0 ≤ i ∧ i ≤ 24 ∧ (n : Int) = 24 - i ∧ (∀ b j : Int, (b ≠ x ∨ j < base ∨ base + 12 ≤ j) → E' b j = E b j) ∧ (∀ v : Int, 0 ≤ v → v < 72 → (0 ≤ E' x v ∧ E' x v ≤ E x v) ∧ Rch G z v (E' x v)) ∧ rI (fun q => E x (base + q)) (fun q => E' x (base + q)) i i) ?_ (n := 24) ⟨0, 0, 0, E, rfl, rfl, rfl, by omega, by omega, by omega, fun _ _ _ => rfl, fun v a b => ⟨⟨(hv v a b).1.1, Int.le_refl _⟩, (hv v a b).2⟩, rI_0⟩
  rintro n k hk lo st h c s ⟨i, y3, y4, E', rfl, rfl, rfl, hi, hi2, hn1, hf, hr, hI⟩
  by_cases hlt : i < 24
  · -- one step
    have stp : ∀ (E1 : Int → Int → Int) (p q : Int), 0 ≤ p → p < 12 → 0 ≤ q → q < 12 → (q = (p + 1) % 12 ∨ p = (q + 1) % 12) → (∀ b j : Int, (b ≠ x ∨ j < base ∨ base + 12 ≤ j) → E1 b j = E b j) → (∀ v : Int, 0 ≤ v → v < 72 → (0 ≤ E1 x v ∧ E1 x v ≤ E x v) ∧ Rch G z v (E1 x v)) → ∀ Q : xQ, (∀ (r : Int) (E2 : Int → Int → Int), (∀ b j : Int, (b ≠ x ∨ j < base ∨ base + 12 ≤ j) → E2 b j = E b j) → (∀ v : Int, 0 ≤ v → v < 72 → (0 ≤ E2 x v ∧ E2 x v ≤ E x v) ∧ Rch G z v (E2 x v)) → (∀ j, 0 ≤ j → j < 12 → (E2 x (base + j) = E1 x (base + j) ∨ (j = q ∧ E2 x (base + j) = E1 x (base + p) + 1 ∧ E2 x (base + j) < E1 x (base + j)))) → E2 x (base + q) ≤ E1 x (base + p) + 1 → Q r (L, R, F, E2, N)) → T_X5_shorten [x, base + p, base + q, 1] (L, R, F, E1, N) Q := by
      intro E1 p q p0 p1 q0 q1 hd hf1 hr1 Q hQ1
      have bp := (hr1 (base + p) (by omega) (by omega)).1
      have bp2 := (hv (base + p) (by omega) (by omega)).1
      have bq := (hr1 (base + q) (by omega) (by omega)).1
      refine sX_shorten hx hl (by omega) (by omega) (by omega) (by omega) (by omega) (by omega) (by omega) (by omega) (fun hlt => ?_) (fun hge => ?_)
      · refine hQ1 1 _ (fun b j z => (up_ne (by omega)).trans (hf1 b j z)) (fun v a b => ?_) (fun j a b => ?_) (by rw [up_eq]; omega)
        · by_cases zv : v = base + q
          · rw [zv, up_eq]
            exact ⟨⟨by omega, by omega⟩, Rch_s (hr1 (base + p) (by omega) (by omega)).2 (hg p q p0 p1 q0 q1 hd)⟩
          · rw [up_ne (by omega)]
            exact hr1 v a b
        · by_cases zv : j = q
          · rw [zv, up_eq]
            exact Or.inr ⟨rfl, rfl, hlt⟩
          · rw [up_ne (by omega)]
            exact Or.inl rfl
      · exact hQ1 0 _ hf1 hr1 (fun j a b => Or.inl rfl) (by omega)
    have e1 : base + 12 - 1 - i % 12 = base + (11 - i % 12) := by omega
    have e2 : base + 12 - 1 - (i + 1) % 12 = base + (11 - (i + 1) % 12) := by omega
    repeat' first
      | exact absurd hc (by decide)
      | simp (disch := omega) only [zLg, zRf, zFq, zEl, zNz, zUf, zUe, zUr, zCe, zSn, gd_0, gd_1, gd_2, gd_3, gd_4, gd_5, gd_6, gd_7, gd_8, gd_9, gd_10, gd_11, gd_12, gd_13, gd_14, gd_15, gd_16, gd_17, gd_18, gd_19, se_0, se_1, se_2, se_3, se_4, se_5, se_6, se_7, se_8, se_9, se_10, se_11, se_12, se_13, se_14, se_15, se_16, se_17, se_18, se_19, e_const, e_load, e_store, e_iinc, e_dup, e_dup2, e_pop, e_iadd, e_isub, e_imul, e_ladd, e_lsub, e_lmul, e_iaddw, e_isubw, e_imulw, e_laddw, e_lsubw, e_lmulw, e_iand, e_ior, e_ishl, e_ishr, e_iushr, e_lcmp, e_imax, e_imin, e_idiv, e_irem, e_ldiv, e_lrem, e_i2l, e_i2b, e_l2i, e_i2c, e_getF, e_getR, e_putF, e_putR, e_putz, e_ald, e_aldR, e_ast, e_astb, e_astz, e_asta, e_len, e_acopy, e_new, e_newa, e_mna, e_this, e_room, e_call0, e_callv0, e_call1, e_callv1, e_inv1, e_invv1, e_call2, e_callv2, e_inv2, e_invv2, e_call3, e_callv3, e_inv3, e_invv3, e_call4, e_callv4, e_inv4, e_invv4, e_call5, e_callv5, e_inv5, e_invv5, e_call6, e_callv6, e_inv6, e_invv6, e_call7, e_callv7, e_inv7, e_invv7, e_call8, e_callv8, e_inv8, e_invv8, e_ret, e_retz, e_retc, e_retb, e_retv, e_skip, e_sco, e_tlen, e_tat, e_iz_eq0, e_iz_eq1, e_iz_ne0, e_iz_ne1, add0, sc_d, sc_t, inI_e, inL_e, up_eq, true_or, or_true, or_false, false_or, and_true, true_and, not_false_eq_true, Int.reduceAdd, Int.reduceSub, Int.reduceMul, Int.reduceNeg, Int.tmod_eq_emod_of_nonneg, e1, e2]
      | with_reducible first | refine izl_lt (fun hc => ?_) (fun hc => ?_) | refine izl_ge (fun hc => ?_) (fun hc => ?_) | refine izl_eq (fun hc => ?_) (fun hc => ?_) | refine ic_ge (fun hc => ?_) (fun hc => ?_) | refine ic_lt (fun hc => ?_) (fun hc => ?_) | refine ic_ne (fun hc => ?_) (fun hc => ?_) | refine ic_eq (fun hc => ?_) (fun hc => ?_) | refine ic_le (fun hc => ?_) (fun hc => ?_) | refine ic_gt (fun hc => ?_) (fun hc => ?_) | refine iz_eq (fun hc => ?_) (fun hc => ?_) | refine iz_ne (fun hc => ?_) (fun hc => ?_) | refine iz_lt (fun hc => ?_) (fun hc => ?_) | refine iz_ge (fun hc => ?_) (fun hc => ?_) | refine iz_gt (fun hc => ?_) (fun hc => ?_) | refine iz_le (fun hc => ?_) (fun hc => ?_) | refine iz_nu (fun hc => ?_) (fun hc => ?_) | refine iz_nn (fun hc => ?_) (fun hc => ?_)
      | omega
      | (exfalso; omega)
    refine stp E' (i % 12) ((i + 1) % 12) (by omega) (by omega) (by omega) (by omega) (Or.inl (by omega)) hf hr _ fun r1 E1 hf1 hr1 hs1 ht1 => ?_
    try simp (disch := omega) only [zLg, zRf, zFq, zEl, zNz, zUf, zUe, zUr, zCe, zSn, gd_0, gd_1, gd_2, gd_3, gd_4, gd_5, gd_6, gd_7, gd_8, gd_9, gd_10, gd_11, gd_12, gd_13, gd_14, gd_15, gd_16, gd_17, gd_18, gd_19, se_0, se_1, se_2, se_3, se_4, se_5, se_6, se_7, se_8, se_9, se_10, se_11, se_12, se_13, se_14, se_15, se_16, se_17, se_18, se_19, e_const, e_load, e_store, e_iinc, e_dup, e_dup2, e_pop, e_iadd, e_isub, e_imul, e_ladd, e_lsub, e_lmul, e_iaddw, e_isubw, e_imulw, e_laddw, e_lsubw, e_lmulw, e_iand, e_ior, e_ishl, e_ishr, e_iushr, e_lcmp, e_imax, e_imin, e_idiv, e_irem, e_ldiv, e_lrem, e_i2l, e_i2b, e_l2i, e_i2c, e_getF, e_getR, e_putF, e_putR, e_putz, e_ald, e_aldR, e_ast, e_astb, e_astz, e_asta, e_len, e_acopy, e_new, e_newa, e_mna, e_this, e_room, e_call0, e_callv0, e_call1, e_callv1, e_inv1, e_invv1, e_call2, e_callv2, e_inv2, e_invv2, e_call3, e_callv3, e_inv3, e_invv3, e_call4, e_callv4, e_inv4, e_invv4, e_call5, e_callv5, e_inv5, e_invv5, e_call6, e_callv6, e_inv6, e_invv6, e_call7, e_callv7, e_inv7, e_invv7, e_call8, e_callv8, e_inv8, e_invv8, e_ret, e_retz, e_retc, e_retb, e_retv, e_skip, e_sco, e_tlen, e_tat, e_iz_eq0, e_iz_eq1, e_iz_ne0, e_iz_ne1, add0, sc_d, sc_t, inI_e, inL_e, up_eq, true_or, or_true, or_false, false_or, and_true, true_and, not_false_eq_true, Int.reduceAdd, Int.reduceSub, Int.reduceMul, Int.reduceNeg, Int.tmod_eq_emod_of_nonneg, e1, e2]
    refine stp E1 (11 - i % 12) (11 - (i + 1) % 12) (by omega) (by omega) (by omega) (by omega) (Or.inr (by omega)) hf1 hr1 _ fun r2 E2 hf2 hr2 hs2 ht2 => ?_
    try simp (disch := omega) only [zLg, zRf, zFq, zEl, zNz, zUf, zUe, zUr, zCe, zSn, gd_0, gd_1, gd_2, gd_3, gd_4, gd_5, gd_6, gd_7, gd_8, gd_9, gd_10, gd_11, gd_12, gd_13, gd_14, gd_15, gd_16, gd_17, gd_18, gd_19, se_0, se_1, se_2, se_3, se_4, se_5, se_6, se_7, se_8, se_9, se_10, se_11, se_12, se_13, se_14, se_15, se_16, se_17, se_18, se_19, e_const, e_load, e_store, e_iinc, e_dup, e_dup2, e_pop, e_iadd, e_isub, e_imul, e_ladd, e_lsub, e_lmul, e_iaddw, e_isubw, e_imulw, e_laddw, e_lsubw, e_lmulw, e_iand, e_ior, e_ishl, e_ishr, e_iushr, e_lcmp, e_imax, e_imin, e_idiv, e_irem, e_ldiv, e_lrem, e_i2l, e_i2b, e_l2i, e_i2c, e_getF, e_getR, e_putF, e_putR, e_putz, e_ald, e_aldR, e_ast, e_astb, e_astz, e_asta, e_len, e_acopy, e_new, e_newa, e_mna, e_this, e_room, e_call0, e_callv0, e_call1, e_callv1, e_inv1, e_invv1, e_call2, e_callv2, e_inv2, e_invv2, e_call3, e_callv3, e_inv3, e_invv3, e_call4, e_callv4, e_inv4, e_invv4, e_call5, e_callv5, e_inv5, e_invv5, e_call6, e_callv6, e_inv6, e_invv6, e_call7, e_callv7, e_inv7, e_invv7, e_call8, e_callv8, e_inv8, e_invv8, e_ret, e_retz, e_retc, e_retb, e_retv, e_skip, e_sco, e_tlen, e_tat, e_iz_eq0, e_iz_eq1, e_iz_ne0, e_iz_ne1, add0, sc_d, sc_t, inI_e, inL_e, up_eq, true_or, or_true, or_false, false_or, and_true, true_and, not_false_eq_true, Int.reduceAdd, Int.reduceSub, Int.reduceMul, Int.reduceNeg]
    exact hk (n - 1) _ _ _ _ _ (by omega) ⟨i + 1, _, _, E2, rfl, rfl, rfl, by omega, by omega, by omega, hf2, hr2, rI_g (rI_f hI hi hs1 ht1) hi hs2 ht2⟩
  · have hie : i = 24 := by omega
    subst hie
    repeat' first
      | exact absurd hc (by decide)
      | simp (disch := omega) only [zLg, zRf, zFq, zEl, zNz, zUf, zUe, zUr, zCe, zSn, gd_0, gd_1, gd_2, gd_3, gd_4, gd_5, gd_6, gd_7, gd_8, gd_9, gd_10, gd_11, gd_12, gd_13, gd_14, gd_15, gd_16, gd_17, gd_18, gd_19, se_0, se_1, se_2, se_3, se_4, se_5, se_6, se_7, se_8, se_9, se_10, se_11, se_12, se_13, se_14, se_15, se_16, se_17, se_18, se_19, e_const, e_load, e_store, e_iinc, e_dup, e_dup2, e_pop, e_iadd, e_isub, e_imul, e_ladd, e_lsub, e_lmul, e_iaddw, e_isubw, e_imulw, e_laddw, e_lsubw, e_lmulw, e_iand, e_ior, e_ishl, e_ishr, e_iushr, e_lcmp, e_imax, e_imin, e_idiv, e_irem, e_ldiv, e_lrem, e_i2l, e_i2b, e_l2i, e_i2c, e_getF, e_getR, e_putF, e_putR, e_putz, e_ald, e_aldR, e_ast, e_astb, e_astz, e_asta, e_len, e_acopy, e_new, e_newa, e_mna, e_this, e_room, e_call0, e_callv0, e_call1, e_callv1, e_inv1, e_invv1, e_call2, e_callv2, e_inv2, e_invv2, e_call3, e_callv3, e_inv3, e_invv3, e_call4, e_callv4, e_inv4, e_invv4, e_call5, e_callv5, e_inv5, e_invv5, e_call6, e_callv6, e_inv6, e_invv6, e_call7, e_callv7, e_inv7, e_invv7, e_call8, e_callv8, e_inv8, e_invv8, e_ret, e_retz, e_retc, e_retb, e_retv, e_skip, e_sco, e_tlen, e_tat, e_iz_eq0, e_iz_eq1, e_iz_ne0, e_iz_ne1, add0, sc_d, sc_t, inI_e, inL_e, up_eq, true_or, or_true, or_false, false_or, and_true, true_and, not_false_eq_true, Int.reduceAdd, Int.reduceSub, Int.reduceMul, Int.reduceNeg]
      | with_reducible first | refine izl_lt (fun hc => ?_) (fun hc => ?_) | refine izl_ge (fun hc => ?_) (fun hc => ?_) | refine izl_eq (fun hc => ?_) (fun hc => ?_) | refine ic_ge (fun hc => ?_) (fun hc => ?_) | refine ic_lt (fun hc => ?_) (fun hc => ?_) | refine ic_ne (fun hc => ?_) (fun hc => ?_) | refine ic_eq (fun hc => ?_) (fun hc => ?_) | refine ic_le (fun hc => ?_) (fun hc => ?_) | refine ic_gt (fun hc => ?_) (fun hc => ?_) | refine iz_eq (fun hc => ?_) (fun hc => ?_) | refine iz_ne (fun hc => ?_) (fun hc => ?_) | refine iz_lt (fun hc => ?_) (fun hc => ?_) | refine iz_ge (fun hc => ?_) (fun hc => ?_) | refine iz_gt (fun hc => ?_) (fun hc => ?_) | refine iz_le (fun hc => ?_) (fun hc => ?_) | refine iz_nu (fun hc => ?_) (fun hc => ?_) | refine iz_nn (fun hc => ?_) (fun hc => ?_)
      | omega
      | (exfalso; omega)
    all_goals exact hQ E' hf hr (fun p q p0 p1 q0 q1 hd => rI_c hI p0 p1 q0 q1 hd)
end RING

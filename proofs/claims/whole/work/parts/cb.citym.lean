/-! ===== the reference takes a city ===== -/
theorem us_e2 {f : Int → Int} {k v q : Int} (h : q = k) : us f k v q = v := if_pos h
theorem zSa {L : Int → Int} {R F E : Int → Int → Int} {N : Nat} {z : Int} : Sa (L, R, F, E, N) z = (us L (N : Int) z, R, F, E, N + 1) := rfl
def frz (N : Nat) (F E : Int → Int → Int) : Prop := ∀ b j : Int, (N : Int) ≤ b → F b j = 0 ∧ E b j = 0
section CITYM
variable {L L' : Int → Int} {R R' F F' E E' : Int → Int → Int} {N : Nat} {Q : xQ} {B a m c fd tr fa pl k n t i j g x y z w h r p r0 p0 r1 p1 x0 x1 x2 x3 x4 x5 : Int} {C : Cy} {tp : Int → Int} {D : Int → Int → Int} {M H : Int → Int → Int → Int} {HN : Int → Int} {nm go : Int → Int}
theorem sM_newCity (hN : (N : Int) = c + 1) (pc : 0 ≤ c) (hQ : ∀ (L' : Int → Int) (R' : Int → Int → Int), mcT c L' R' → (∀ b : Int, b ≤ c → L' b = L b) → (∀ b j : Int, b ≠ c → R' b j = R b j) → Q 0 (L', R', F, E, N + 22)) : T_X9_init [c] (L, R, F, E, N) Q := by
  try simp (disch := omega) only [t_X9_init, ue_X9_init, zLg, zRf, zFq, zEl, zNz, zUf, zUe, zUr, zCe, zSn, gd_0, gd_1, gd_2, gd_3, gd_4, gd_5, gd_6, gd_7, gd_8, gd_9, gd_10, gd_11, gd_12, gd_13, gd_14, gd_15, gd_16, gd_17, gd_18, gd_19, se_0, se_1, se_2, se_3, se_4, se_5, se_6, se_7, se_8, se_9, se_10, se_11, se_12, se_13, se_14, se_15, se_16, se_17, se_18, se_19, e_const, e_load, e_store, e_iinc, e_dup, e_dup2, e_pop, e_iadd, e_isub, e_imul, e_ladd, e_lsub, e_lmul, e_iaddw, e_isubw, e_imulw, e_laddw, e_lsubw, e_lmulw, e_iand, e_ior, e_ishl, e_ishr, e_iushr, e_lcmp, e_imax, e_imin, e_idiv, e_irem, e_ldiv, e_lrem, e_i2l, e_i2b, e_l2i, e_i2c, e_getF, e_getR, e_putF, e_putR, e_putz, e_ald, e_aldR, e_ast, e_astb, e_astz, e_asta, e_len, e_acopy, e_new, e_newa, e_mna, e_this, e_room, e_call0, e_callv0, e_call1, e_callv1, e_inv1, e_invv1, e_call2, e_callv2, e_inv2, e_invv2, e_call3, e_callv3, e_inv3, e_invv3, e_call4, e_callv4, e_inv4, e_invv4, e_call5, e_callv5, e_inv5, e_invv5, e_call6, e_callv6, e_inv6, e_invv6, e_call7, e_callv7, e_inv7, e_invv7, e_call8, e_callv8, e_inv8, e_invv8, e_ret, e_retz, e_retc, e_retb, e_retv, e_skip, e_sco, e_tlen, e_tat, e_iz_eq0, e_iz_eq1, e_iz_ne0, e_iz_ne1, add0, sc_d, sc_t, inI_e, inL_e, up_eq, true_or, or_true, or_false, false_or, and_true, true_and, not_false_eq_true, Int.reduceAdd, Int.reduceSub, Int.reduceMul, Int.reduceNeg, zSa, Nat.add_assoc, Nat.reduceAdd]
  refine hQ _ _ ?_ ?_ ?_
  · unfold mcT
    refine ⟨pc, ?_, ?_, ?_, ?_, ?_, ?_, ?_, ?_, ?_, ?_, ?_, ?_, ?_, ?_, ?_, ?_, ?_, ?_, ?_, ?_, ?_, ?_, ?_, ?_, ?_, ?_, ?_, ?_, ?_, ?_, ?_, ?_, ?_, ?_, ?_, ?_, ?_, ?_, ?_, ?_, ?_, ?_, ?_, ?_⟩
    all_goals
      try simp (disch := omega) only [up_ne, up_eq, us_n, us_e2]
      try omega
  · intro b z
    try simp (disch := omega) only [us_n]
  · intro b j z
    try simp (disch := omega) only [up_ne]
theorem pm_z (hz : ∀ b j : Int, c ≤ b → F b j = 0 ∧ E b j = 0) : pmM c zC zf zf F E := by
  have kz : kN zC = 0 := rfl
  have z0 : ∀ x y z : Int, zC x y z = 0 := fun _ _ _ => rfl
  unfold pmM
  simp only [kz, z0]
  refine ⟨(hz _ _ (by omega)).1, (hz _ _ (by omega)).1, (hz _ _ (by omega)).1, (hz _ _ (by omega)).1, (hz _ _ (by omega)).1, (hz _ _ (by omega)).1, fun g a b => by omega, fun g w a b => by omega, fun g a b => (hz _ _ (by omega)).2, fun g a b => (hz _ _ (by omega)).2, fun g a b => (hz _ _ (by omega)).2, fun g a b => by omega, fun g a b => by omega, fun g a b => by omega, fun g a b => by omega, fun g a b => by omega, fun g a b => by omega, fun g a b => by omega, fun g a b => by omega, fun g a b => by omega, fun g a b => by omega, fun g a b => by omega, fun g a b => by omega, fun g a b => by omega, fun g a b => by omega, fun g a b => by omega, fun g a b => by omega, fun g a b => by omega⟩
theorem mM_pm (h : pmM c C nm go F E) (hW : ctW C) (h17 : F' m 17 = C 0 1 0) (hF : ∀ j : Int, F' c j = F c j) (hg : ∀ y : Int, 0 ≤ y → y < 77 → E' (m + 2) y = E (c + 7) y) (hE : ∀ b j : Int, c < b → b < c + 23 → E' b j = E b j) : mM m c C F' E' := by
  have b0 := cw_0 hW
  have b1 := cw_1 hW
  exact ⟨(hF _).trans (pm_0 h), h17, (hF _).trans (pm_2 h), (hF _).trans (pm_3 h), (hF _).trans (pm_4 h), fun g a b => (hE _ _ (by omega) (by omega)).trans (pm_w h g a b), fun g w a b x y => (hg _ (by omega) (by omega)).trans (pm_g h g w a b x y), fun g a b => (hE _ _ (by omega) (by omega)).trans (pm_s1 h g a (by omega)), fun g a b => (hE _ _ (by omega) (by omega)).trans (pm_s2 h g a (by omega)), fun g a b => (hE _ _ (by omega) (by omega)).trans (pm_c0 h g a b), fun g a b => (hE _ _ (by omega) (by omega)).trans (pm_c1 h g a b), fun g a b => (hE _ _ (by omega) (by omega)).trans (pm_k0 h g a b), fun g a b => (hE _ _ (by omega) (by omega)).trans (pm_k1 h g a b), fun g a b => (hE _ _ (by omega) (by omega)).trans (pm_k2 h g a b), fun g a b => (hE _ _ (by omega) (by omega)).trans (pm_k3 h g a b), fun g a b => (hE _ _ (by omega) (by omega)).trans (pm_k4 h g a b), fun g a b => (hE _ _ (by omega) (by omega)).trans (pm_k5 h g a b), fun g a b => (hE _ _ (by omega) (by omega)).trans (pm_k6 h g a b), fun g a b => (hE _ _ (by omega) (by omega)).trans (pm_o0 h g a b), fun g a b => (hE _ _ (by omega) (by omega)).trans (pm_o1 h g a b), fun g a b => (hE _ _ (by omega) (by omega)).trans (pm_o2 h g a b), fun g a b => (hE _ _ (by omega) (by omega)).trans (pm_o3 h g a b), fun g a b => (hE _ _ (by omega) (by omega)).trans (pm_o4 h g a b), fun g a b => (hE _ _ (by omega) (by omega)).trans (pm_o5 h g a b)⟩
theorem dmS.gb (h : dmS m c C L R F E) (hLm : ∀ b : Int, m ≤ b → b < m + 16 → L' b = L b) (hLc : ∀ b : Int, c ≤ b → b < c + 23 → L' b = L b) (hRm : ∀ j : Int, j ≠ 4 → R' m j = R m j) (hRc : ∀ j : Int, R' c j = R c j) (h17 : F' m 17 = F m 17) (hF : ∀ j : Int, F' c j = F c j) (h2 : ∀ b j : Int, (b = m + 2 ∨ b = m + 10 ∨ b = m + 11 ∨ (c ≤ b ∧ b < c + 23)) → E' b j = E b j) : dmS m c C L' R' F' E' := by
  have hm := es_m h
  refine ⟨(es_t h).gg hLm (fun j u => hRm j (by omega)), (es_c h).gg hLc hRc, (hRm _ (by omega)).trans (es_3 h), ⟨(hF _).trans (mm_0 hm), h17.trans (mm_1 hm), (hF _).trans (mm_2 hm), (hF _).trans (mm_3 hm), (hF _).trans (mm_4 hm), fun g a b => (h2 _ _ (by omega)).trans (mm_w hm g a b), fun g w a b x y => (h2 _ _ (by omega)).trans (mm_g hm g w a b x y), fun g a b => (h2 _ _ (by omega)).trans (mm_s1 hm g a b), fun g a b => (h2 _ _ (by omega)).trans (mm_s2 hm g a b), fun g a b => (h2 _ _ (by omega)).trans (mm_c0 hm g a b), fun g a b => (h2 _ _ (by omega)).trans (mm_c1 hm g a b), fun g a b => (h2 _ _ (by omega)).trans (mm_k0 hm g a b), fun g a b => (h2 _ _ (by omega)).trans (mm_k1 hm g a b), fun g a b => (h2 _ _ (by omega)).trans (mm_k2 hm g a b), fun g a b => (h2 _ _ (by omega)).trans (mm_k3 hm g a b), fun g a b => (h2 _ _ (by omega)).trans (mm_k4 hm g a b), fun g a b => (h2 _ _ (by omega)).trans (mm_k5 hm g a b), fun g a b => (h2 _ _ (by omega)).trans (mm_k6 hm g a b), fun g a b => (h2 _ _ (by omega)).trans (mm_o0 hm g a b), fun g a b => (h2 _ _ (by omega)).trans (mm_o1 hm g a b), fun g a b => (h2 _ _ (by omega)).trans (mm_o2 hm g a b), fun g a b => (h2 _ _ (by omega)).trans (mm_o3 hm g a b), fun g a b => (h2 _ _ (by omega)).trans (mm_o4 hm g a b), fun g a b => (h2 _ _ (by omega)).trans (mm_o5 hm g a b)⟩, es_w h, es_mc h, fun o a b z => ?_⟩
  obtain ⟨u, v⟩ := es_y h o a b z
  exact ⟨(h2 _ _ (by omega)).trans u, fun i x y => (h2 _ _ (by omega)).trans (v i x y)⟩
theorem lin_nn : ∀ (l : List (Int → Int)) (i : Int), (∀ p ∈ l, ∀ i : Int, 0 ≤ p i) → 0 ≤ (lin tp n l i).1 := by
  intro l
  induction l with
  | nil => intro i _; exact Int.le_refl _
  | cons p l ih =>
    intro i hp
    by_cases z : p i = 0
    · rw [lin_0 z]; exact ih _ (fun q hq => hp q (List.mem_cons_of_mem _ hq))
    · rw [lin_1 z]; exact hp p List.mem_cons_self i
theorem nn_Wd {s : Int} (i : Int) : 0 ≤ fWd tp n s i := by unfold fWd; split <;> omega
theorem nn_W {lo hi : Int} (i : Int) : 0 ≤ fW tp n lo hi i := by unfold fW; repeat' split; all_goals omega
theorem nn_Cm (i : Int) : 0 ≤ fCm tp n i := by unfold fCm; split <;> omega
theorem nn_Nw (i : Int) : 0 ≤ fNw tp n nm k i := by unfold fNw; repeat' split; all_goals omega
theorem nn_Gd (i : Int) : 0 ≤ fGd tp n nm go k i := by unfold fGd; repeat' split; all_goals omega
theorem nn_Bg {rg many most : Int} (i : Int) : 0 ≤ fBg rg many most i := by unfold fBg; repeat' split; all_goals omega
theorem nn_St (i : Int) : 0 ≤ fSt tp n C i := by
  unfold fSt
  split
  · split <;> omega
  · exact nn_W i
theorem nn_rg : ∀ (f : Nat) (cc w j : Int), 0 ≤ (rgF tp n f cc w j).1 := by
  intro f
  induction f with
  | zero => intro cc w j; show 0 ≤ (if kdt tp n j = 2 then (5 : Int) else 1); split <;> omega
  | succ f ih =>
    intro cc w j
    by_cases z : fW tp n 1 w j = 0
    · by_cases y : kdt tp n (tkn tp n j) = 4
      · rw [rgF_go z y]; exact ih _ _ _
      · rw [rgF_st z y]; show 0 ≤ (if cc + 1 < 2 then (1 : Int) else 0); split <;> omega
    · rw [rgF_no z]; exact nn_W j
theorem nn_ln (i : Int) : 0 ≤ (lnM tp n C nm go i).1 := by
  unfold lnM
  repeat' split
  · unfold ringM
    split
    · exact nn_rg _ _ _ _
    · show (0 : Int) ≤ 3; omega
  · refine lin_nn _ _ (fun p hp i => ?_)
    unfold gateL at hp
    simp only [List.mem_cons, List.not_mem_nil, or_false] at hp
    rcases hp with rfl | rfl | rfl | rfl | rfl | rfl | rfl | rfl | rfl | rfl | rfl | rfl | rfl | rfl
    all_goals first | exact nn_Wd i | exact nn_W i | exact nn_Nw i | exact nn_Bg i
  · refine lin_nn _ _ (fun p hp i => ?_)
    unfold cartL at hp
    simp only [List.mem_cons, List.not_mem_nil, or_false] at hp
    rcases hp with rfl | rfl | rfl | rfl | rfl | rfl
    all_goals first | exact nn_Wd i | exact nn_W i | exact nn_Nw i | exact nn_Bg i
  · refine lin_nn _ _ (fun p hp i => ?_)
    unfold storeL at hp
    simp only [List.mem_cons, List.not_mem_nil, or_false] at hp
    rcases hp with rfl | rfl | rfl | rfl | rfl | rfl
    all_goals first | exact nn_Wd i | exact nn_W i | exact nn_St i | exact nn_Bg i
  · have hl : 0 ≤ (lin tp n (goodL tp n C nm) i).1 := by
      refine lin_nn _ _ (fun p hp i => ?_)
      unfold goodL at hp
      simp only [List.mem_cons, List.not_mem_nil, or_false] at hp
      rcases hp with rfl | rfl | rfl | rfl | rfl | rfl | rfl | rfl | rfl | rfl
      all_goals first | exact nn_Wd i | exact nn_W i | exact nn_Nw i | exact nn_Bg i
    unfold goodM
    repeat' split
    · exact hl
    · show 0 ≤ gkF tp n _
      unfold gkF
      split
      · exact nn_W _
      · omega
    · exact Int.le_refl _
  · refine lin_nn _ _ (fun p hp i => ?_)
    unfold orderL at hp
    simp only [List.mem_cons, List.not_mem_nil, or_false] at hp
    rcases hp with rfl | rfl | rfl | rfl | rfl | rfl | rfl | rfl | rfl | rfl | rfl | rfl | rfl | rfl
    all_goals first | exact nn_Wd i | exact nn_W i | exact nn_Nw i | exact nn_Bg i | exact nn_Gd i | exact nn_Cm i
  · show (0 : Int) ≤ 1; omega
theorem nn_pr : ∀ (f : Nat) (C : Cy) (nm go : Int → Int) (i : Int), 0 ≤ (prF tp n f C nm go i).1.1 := by
  intro f
  induction f with
  | zero => intro C nm go i; show (0 : Int) ≤ 1; omega
  | succ f ih =>
    intro C nm go i
    rw [prF_s]
    repeat' split
    · show (0 : Int) ≤ 6; omega
    · show (0 : Int) ≤ 0; omega
    · exact ih _ _ _ _
    · show (0 : Int) ≤ 1; omega
    · exact nn_ln i
theorem m99 {c9 s9 : Nat} (hT : mtT m L R) (hcT : mcT c L R) (h3 : R m 3 = c) (cm : m + 16 < c) (hP : pmM c C nm go F E) (hW : ctW C) (hQ : ∀ F5 E5 F3 E3 : Int → Int → Int, F5 = up (up F m 17 (C 0 1 0)) m 44 0 → (∀ b q : Int, b ≠ m + 2 → E5 b q = E b q) → frDF m F5 F3 → frDE m E5 E3 → F3 m 39 = 0 → dmS m c C L R F3 E3 → dmM m C (dwD C) F3 E3 → Q (C 0 0 0) (L, R, up (up F3 m 1 0) m 2 (-1), E3, N)) : L_X10_city_99 Q [m, x, 0] [] (L, R, F, E, N) c9 s9 := by
  have pm := mt_p hT
  have pc := mc_p hcT
  have r16 := mt_16 hT
  have l2 := mt_l2 hT
  have r12 := mc_12 hcT
  have l7 := mc_l7 hcT
  have f1 := pm_1 hP
  unfold L_X10_city_99
  refine lpw (fun nn lo st h c' d => ∃ (q : Int) (E5 : Int → Int → Int), lo = [m, x, q] ∧ st = [] ∧ h = (L, R, F, E5, N) ∧ 0 ≤ q ∧ q ≤ 77 ∧ (nn : Int) = 77 - q ∧ (∀ y : Int, 0 ≤ y → y < q → E5 (m + 2) y = E (c + 7) y) ∧ (∀ b j : Int, b ≠ m + 2 → E5 b j = E b j)) ?_ (n := 77) ⟨0, E, rfl, rfl, rfl, by omega, by omega, by omega, fun y u v => by omega, fun _ _ _ => rfl⟩
  rintro nn kk hkk lo st h c9 s9 ⟨q, E5, rfl, rfl, rfl, q0, q1, hnn, hy, hE5⟩
  by_cases qe : q < 77
  · have ok : kk [m, x, q + 1] [] (L, R, F, up E5 (m + 2) q (E5 (c + 7) q), N) c9 s9 := hkk (nn - 1) _ _ _ _ _ (by omega) ⟨q + 1, _, rfl, rfl, rfl, by omega, by omega, by omega, fun y u v => by
        by_cases z : y = q
        · rw [z, up_eq]; exact hE5 _ _ (by omega)
        · rw [up_ne (by omega)]; exact hy y u (by omega), fun b j z => (up_ne (by omega)).trans (hE5 b j z)⟩
    clear hkk hQ
    repeat' first
      | exact absurd hc (by decide)
      | simp (disch := omega) only [zLg, zRf, zFq, zEl, zNz, zUf, zUe, zUr, zCe, zSn, gd_0, gd_1, gd_2, gd_3, gd_4, gd_5, gd_6, gd_7, gd_8, gd_9, gd_10, gd_11, gd_12, gd_13, gd_14, gd_15, gd_16, gd_17, gd_18, gd_19, se_0, se_1, se_2, se_3, se_4, se_5, se_6, se_7, se_8, se_9, se_10, se_11, se_12, se_13, se_14, se_15, se_16, se_17, se_18, se_19, e_const, e_load, e_store, e_iinc, e_dup, e_dup2, e_pop, e_iadd, e_isub, e_imul, e_ladd, e_lsub, e_lmul, e_iaddw, e_isubw, e_imulw, e_laddw, e_lsubw, e_lmulw, e_iand, e_ior, e_ishl, e_ishr, e_iushr, e_lcmp, e_imax, e_imin, e_idiv, e_irem, e_ldiv, e_lrem, e_i2l, e_i2b, e_l2i, e_i2c, e_getF, e_getR, e_putF, e_putR, e_putz, e_ald, e_aldR, e_ast, e_astb, e_astz, e_asta, e_len, e_acopy, e_new, e_newa, e_mna, e_this, e_room, e_call0, e_callv0, e_call1, e_callv1, e_inv1, e_invv1, e_call2, e_callv2, e_inv2, e_invv2, e_call3, e_callv3, e_inv3, e_invv3, e_call4, e_callv4, e_inv4, e_invv4, e_call5, e_callv5, e_inv5, e_invv5, e_call6, e_callv6, e_inv6, e_invv6, e_call7, e_callv7, e_inv7, e_invv7, e_call8, e_callv8, e_inv8, e_invv8, e_ret, e_retz, e_retc, e_retb, e_retv, e_skip, e_sco, e_tlen, e_tat, e_iz_eq0, e_iz_eq1, e_iz_ne0, e_iz_ne1, add0, sc_d, sc_t, inI_e, inL_e, up_eq, true_or, or_true, or_false, false_or, and_true, true_and, not_false_eq_true, Int.reduceAdd, Int.reduceSub, Int.reduceMul, Int.reduceNeg, h3, r16, l2, r12, l7]
      | with_reducible first | refine izl_lt (fun hc => ?_) (fun hc => ?_) | refine izl_ge (fun hc => ?_) (fun hc => ?_) | refine izl_eq (fun hc => ?_) (fun hc => ?_) | refine ic_ge (fun hc => ?_) (fun hc => ?_) | refine ic_lt (fun hc => ?_) (fun hc => ?_) | refine ic_ne (fun hc => ?_) (fun hc => ?_) | refine ic_eq (fun hc => ?_) (fun hc => ?_) | refine ic_le (fun hc => ?_) (fun hc => ?_) | refine ic_gt (fun hc => ?_) (fun hc => ?_) | refine iz_eq (fun hc => ?_) (fun hc => ?_) | refine iz_ne (fun hc => ?_) (fun hc => ?_) | refine iz_lt (fun hc => ?_) (fun hc => ?_) | refine iz_ge (fun hc => ?_) (fun hc => ?_) | refine iz_gt (fun hc => ?_) (fun hc => ?_) | refine iz_le (fun hc => ?_) (fun hc => ?_) | refine iz_nu (fun hc => ?_) (fun hc => ?_) | refine iz_nn (fun hc => ?_) (fun hc => ?_)
      | omega
      | (exfalso; omega)
    all_goals exact ok
  · have qq : q = 77 := by omega
    have hM5 : mM m c C (up (up F m 17 (C 0 1 0)) m 44 0) E5 := mM_pm hP hW (by rw [up_ne (by omega), up_eq]) (fun j => by rw [up_ne (by omega), up_ne (by omega)]) (fun y u v => hy y u (by omega)) (fun b j u v => hE5 b j (by omega))
    have ok : ∀ F3 E3 : Int → Int → Int, frDF m (up (up F m 17 (C 0 1 0)) m 44 0) F3 → frDE m E5 E3 → F3 m 39 = 0 → dmS m c C L R F3 E3 → dmM m C (dwD C) F3 E3 → Q (C 0 0 0) (L, R, up (up F3 m 1 0) m 2 (-1), E3, N) := fun F3 E3 a1 a2 a3 a4 a5 => hQ _ E5 F3 E3 rfl hE5 a1 a2 a3 a4 a5
    clear hkk hQ hy hE5
    repeat' first
      | exact absurd hc (by decide)
      | with_reducible refine sM_dawns hT hcT h3 hM5 hW cm (fun F3 E3 a1 a2 a3 a4 a5 => ?_)
      | simp (disch := omega) only [zLg, zRf, zFq, zEl, zNz, zUf, zUe, zUr, zCe, zSn, gd_0, gd_1, gd_2, gd_3, gd_4, gd_5, gd_6, gd_7, gd_8, gd_9, gd_10, gd_11, gd_12, gd_13, gd_14, gd_15, gd_16, gd_17, gd_18, gd_19, se_0, se_1, se_2, se_3, se_4, se_5, se_6, se_7, se_8, se_9, se_10, se_11, se_12, se_13, se_14, se_15, se_16, se_17, se_18, se_19, e_const, e_load, e_store, e_iinc, e_dup, e_dup2, e_pop, e_iadd, e_isub, e_imul, e_ladd, e_lsub, e_lmul, e_iaddw, e_isubw, e_imulw, e_laddw, e_lsubw, e_lmulw, e_iand, e_ior, e_ishl, e_ishr, e_iushr, e_lcmp, e_imax, e_imin, e_idiv, e_irem, e_ldiv, e_lrem, e_i2l, e_i2b, e_l2i, e_i2c, e_getF, e_getR, e_putF, e_putR, e_putz, e_ald, e_aldR, e_ast, e_astb, e_astz, e_asta, e_len, e_acopy, e_new, e_newa, e_mna, e_this, e_room, e_call0, e_callv0, e_call1, e_callv1, e_inv1, e_invv1, e_call2, e_callv2, e_inv2, e_invv2, e_call3, e_callv3, e_inv3, e_invv3, e_call4, e_callv4, e_inv4, e_invv4, e_call5, e_callv5, e_inv5, e_invv5, e_call6, e_callv6, e_inv6, e_invv6, e_call7, e_callv7, e_inv7, e_invv7, e_call8, e_callv8, e_inv8, e_invv8, e_ret, e_retz, e_retc, e_retb, e_retv, e_skip, e_sco, e_tlen, e_tat, e_iz_eq0, e_iz_eq1, e_iz_ne0, e_iz_ne1, add0, sc_d, sc_t, inI_e, inL_e, up_eq, true_or, or_true, or_false, false_or, and_true, true_and, not_false_eq_true, Int.reduceAdd, Int.reduceSub, Int.reduceMul, Int.reduceNeg, h3, r16, l2, f1]
      | with_reducible first | refine izl_lt (fun hc => ?_) (fun hc => ?_) | refine izl_ge (fun hc => ?_) (fun hc => ?_) | refine izl_eq (fun hc => ?_) (fun hc => ?_) | refine ic_ge (fun hc => ?_) (fun hc => ?_) | refine ic_lt (fun hc => ?_) (fun hc => ?_) | refine ic_ne (fun hc => ?_) (fun hc => ?_) | refine ic_eq (fun hc => ?_) (fun hc => ?_) | refine ic_le (fun hc => ?_) (fun hc => ?_) | refine ic_gt (fun hc => ?_) (fun hc => ?_) | refine iz_eq (fun hc => ?_) (fun hc => ?_) | refine iz_ne (fun hc => ?_) (fun hc => ?_) | refine iz_lt (fun hc => ?_) (fun hc => ?_) | refine iz_ge (fun hc => ?_) (fun hc => ?_) | refine iz_gt (fun hc => ?_) (fun hc => ?_) | refine iz_le (fun hc => ?_) (fun hc => ?_) | refine iz_nu (fun hc => ?_) (fun hc => ?_) | refine iz_nn (fun hc => ?_) (fun hc => ?_)
      | omega
      | (exfalso; omega)
    all_goals
      have e0 := mm_0 (es_m a4)
      repeat' first
        | exact absurd hc (by decide)
        | simp (disch := omega) only [ue_X10_good, t_X10_good, zLg, zRf, zFq, zEl, zNz, zUf, zUe, zUr, zCe, zSn, gd_0, gd_1, gd_2, gd_3, gd_4, gd_5, gd_6, gd_7, gd_8, gd_9, gd_10, gd_11, gd_12, gd_13, gd_14, gd_15, gd_16, gd_17, gd_18, gd_19, se_0, se_1, se_2, se_3, se_4, se_5, se_6, se_7, se_8, se_9, se_10, se_11, se_12, se_13, se_14, se_15, se_16, se_17, se_18, se_19, e_const, e_load, e_store, e_iinc, e_dup, e_dup2, e_pop, e_iadd, e_isub, e_imul, e_ladd, e_lsub, e_lmul, e_iaddw, e_isubw, e_imulw, e_laddw, e_lsubw, e_lmulw, e_iand, e_ior, e_ishl, e_ishr, e_iushr, e_lcmp, e_imax, e_imin, e_idiv, e_irem, e_ldiv, e_lrem, e_i2l, e_i2b, e_l2i, e_i2c, e_getF, e_getR, e_putF, e_putR, e_putz, e_ald, e_aldR, e_ast, e_astb, e_astz, e_asta, e_len, e_acopy, e_new, e_newa, e_mna, e_this, e_room, e_call0, e_callv0, e_call1, e_callv1, e_inv1, e_invv1, e_call2, e_callv2, e_inv2, e_invv2, e_call3, e_callv3, e_inv3, e_invv3, e_call4, e_callv4, e_inv4, e_invv4, e_call5, e_callv5, e_inv5, e_invv5, e_call6, e_callv6, e_inv6, e_invv6, e_call7, e_callv7, e_inv7, e_invv7, e_call8, e_callv8, e_inv8, e_invv8, e_ret, e_retz, e_retc, e_retb, e_retv, e_skip, e_sco, e_tlen, e_tat, e_iz_eq0, e_iz_eq1, e_iz_ne0, e_iz_ne1, add0, sc_d, sc_t, inI_e, inL_e, up_eq, true_or, or_true, or_false, false_or, and_true, true_and, not_false_eq_true, Int.reduceAdd, Int.reduceSub, Int.reduceMul, Int.reduceNeg, h3, e0]
        | with_reducible first | refine izl_lt (fun hc => ?_) (fun hc => ?_) | refine izl_ge (fun hc => ?_) (fun hc => ?_) | refine izl_eq (fun hc => ?_) (fun hc => ?_) | refine ic_ge (fun hc => ?_) (fun hc => ?_) | refine ic_lt (fun hc => ?_) (fun hc => ?_) | refine ic_ne (fun hc => ?_) (fun hc => ?_) | refine ic_eq (fun hc => ?_) (fun hc => ?_) | refine ic_le (fun hc => ?_) (fun hc => ?_) | refine ic_gt (fun hc => ?_) (fun hc => ?_) | refine iz_eq (fun hc => ?_) (fun hc => ?_) | refine iz_ne (fun hc => ?_) (fun hc => ?_) | refine iz_lt (fun hc => ?_) (fun hc => ?_) | refine iz_ge (fun hc => ?_) (fun hc => ?_) | refine iz_gt (fun hc => ?_) (fun hc => ?_) | refine iz_le (fun hc => ?_) (fun hc => ?_) | refine iz_nu (fun hc => ?_) (fun hc => ?_) | refine iz_nn (fun hc => ?_) (fun hc => ?_)
        | omega
        | (exfalso; omega)
      all_goals exact ok F3 E3 a1 a2 a3 a4 a5
set_option maxHeartbeats 1000000 in
theorem cM_city (hM0 : rfM m c C tp fd tr fa pl D k M n H HN L R F E) (hs : stW C tp fd tr D k M n H HN) (hN : m + 16 < (N : Int)) (hcN : c + 23 ≤ (N : Int)) (hzz : frz N F E) (h1 : (0 ≤ x ∧ x ≤ fd) → (prs tp x).1.1 = 0 → ∀ (L' : Int → Int) (R' F' E' : Int → Int → Int), (∀ b : Int, b < (N : Int) → L' b = L b) → rfM m (N : Int) (prs tp x).2 tp 0 0 0 pl (dwD (prs tp x).2) 0 M 0 H HN L' R' F' E' → fM m R R' F F' E E' → Q ((prs tp x).2 0 0 0) (L', R', F', E', N + 23)) (h0 : (0 ≤ x ∧ x ≤ fd) → (prs tp x).1.1 ≠ 0 → ∀ (L' : Int → Int) (R' F' E' : Int → Int → Int), (∀ b : Int, b < (N : Int) → L' b = L b) → rfM m c C tp 0 4 (prs tp x).1.1 (prs tp x).1.2 D k M n H HN L' R' F' E' → fM m R R' F F' E E' → Q (-1) (L', R', F', E', N + 23)) (h3 : ¬ (0 ≤ x ∧ x ≤ fd) → ∀ F' E' : Int → Int → Int, qM m 2 (-1) F F' E E' → Q (-1) (L, R, F', E', N)) : T_X10_city [m, x] (L, R, F, E, N) Q := by
  have pm := mt_p (rx_t hM0)
  have hW := sw_w hs
  have bn := sw_n hs
  have bk := sw_k hs
  have bf := sw_f hs
  have b0 := cw_0 hW
  have b1 := cw_1 hW
  have b2 := cw_2 hW
  have b3 := cw_3 hW
  have b4 := cw_4 hW
  have hM := hM0.fq hs (F' := up F m 0 0) (E' := E) (fun b j z => up_ne (by omega)) (fun _ _ _ _ _ => rfl)
  have hqz : qN m F (up F m 0 0) E E := qN.z
  try simp (disch := omega) only [t_X10_city, ue_X10_city, zLg, zRf, zFq, zEl, zNz, zUf, zUe, zUr, zCe, zSn, gd_0, gd_1, gd_2, gd_3, gd_4, gd_5, gd_6, gd_7, gd_8, gd_9, gd_10, gd_11, gd_12, gd_13, gd_14, gd_15, gd_16, gd_17, gd_18, gd_19, se_0, se_1, se_2, se_3, se_4, se_5, se_6, se_7, se_8, se_9, se_10, se_11, se_12, se_13, se_14, se_15, se_16, se_17, se_18, se_19, e_const, e_load, e_store, e_iinc, e_dup, e_dup2, e_pop, e_iadd, e_isub, e_imul, e_ladd, e_lsub, e_lmul, e_iaddw, e_isubw, e_imulw, e_laddw, e_lsubw, e_lmulw, e_iand, e_ior, e_ishl, e_ishr, e_iushr, e_lcmp, e_imax, e_imin, e_idiv, e_irem, e_ldiv, e_lrem, e_i2l, e_i2b, e_l2i, e_i2c, e_getF, e_getR, e_putF, e_putR, e_putz, e_ald, e_aldR, e_ast, e_astb, e_astz, e_asta, e_len, e_acopy, e_new, e_newa, e_mna, e_this, e_room, e_call0, e_callv0, e_call1, e_callv1, e_inv1, e_invv1, e_call2, e_callv2, e_inv2, e_invv2, e_call3, e_callv3, e_inv3, e_invv3, e_call4, e_callv4, e_inv4, e_invv4, e_call5, e_callv5, e_inv5, e_invv5, e_call6, e_callv6, e_inv6, e_invv6, e_call7, e_callv7, e_inv7, e_invv7, e_call8, e_callv8, e_inv8, e_invv8, e_ret, e_retz, e_retc, e_retb, e_retv, e_skip, e_sco, e_tlen, e_tat, e_iz_eq0, e_iz_eq1, e_iz_ne0, e_iz_ne1, add0, sc_d, sc_t, inI_e, inL_e, up_eq, true_or, or_true, or_false, false_or, and_true, true_and, not_false_eq_true, Int.reduceAdd, Int.reduceSub, Int.reduceMul, Int.reduceNeg]
  have hz1 : frz N (up F m 0 0) E := fun b j u => ⟨(up_ne (by omega)).trans (hzz b j u).1, (hzz b j u).2⟩
  generalize up F m 0 0 = F1 at *
  have hS := rx_st hM
  have e6 := rx_6 hM
  by_cases hx : 0 ≤ x ∧ x ≤ fd
  · have hTm := rx_t hM
    obtain ⟨G, hG⟩ : ∃ G : Int → Int → Int, G = up (up (up (up F1 m 7 x) m 6 0) m 8 0) m 13 0 := ⟨_, rfl⟩
    have gF : ∀ b j : Int, (b ≠ m ∨ (j ≠ 6 ∧ j ≠ 7 ∧ j ≠ 8 ∧ j ≠ 13)) → G b j = F1 b j := fun b j u => by rw [hG, up_ne (by omega), up_ne (by omega), up_ne (by omega), up_ne (by omega)]
    have g7 : G m 7 = x := by rw [hG, up_ne (by omega), up_ne (by omega), up_ne (by omega), up_eq]
    have g6 : G m 6 = 0 := by rw [hG, up_ne (by omega), up_ne (by omega), up_eq]
    have g8 : G m 8 = 0 := by rw [hG, up_ne (by omega), up_eq]
    have g13 : G m 13 = 0 := by rw [hG, up_eq]
    have ht : ∀ i : Int, 0 ≤ i → i < x → E (m + 1) i = wB (tp i) := fun i u v => rx_tp hM i u (by omega)
    have hb : ∀ i : Int, 0 ≤ i → i < x → 0 ≤ tp i ∧ tp i ≤ 255 := fun i u v => sw_tp hs i u (by omega)
    have key : ∀ (K : xQ), (∀ (L1 : Int → Int) (R1 : Int → Int → Int), mcT (N : Int) L1 R1 → (∀ b : Int, b ≤ (N : Int) → L1 b = L b) → (∀ b j : Int, b ≠ (N : Int) → R1 b j = R b j) → K 0 (L1, R1, G, E, N + 1 + 22)) → T_X9_init [(N : Int)] (L, R, G, E, N + 1) K := fun K hK => sM_newCity (by omega) (by omega) hK
    have read : ∀ (L1 : Int → Int) (R1 : Int → Int → Int), mcT (N : Int) L1 R1 → (∀ b : Int, b ≤ (N : Int) → L1 b = L b) → (∀ b j : Int, b ≠ (N : Int) → R1 b j = R b j) → ∀ K : xQ, ((prs tp x).1.1 = 0 → ∀ (F' E' : Int → Int → Int) (nm' go' : Int → Int), F' m 13 = 0 → pmM (N : Int) (prs tp x).2 nm' go' F' E' → ctW (prs tp x).2 → 0 < (prs tp x).2 0 0 0 → rmX m (N : Int) G F' E E' → K 0 (L1, up R1 m 4 (N : Int), F', E', N + 23)) → ((prs tp x).1.1 ≠ 0 → ∀ F' E' : Int → Int → Int, deM m (prs tp x).1 F' → rmX m (N : Int) G F' E E' → K 0 (L1, up R1 m 4 (N : Int), F', E', N + 23)) → ∀ F3 : Int → Int → Int, alM m tp x (skp tp x 0) F3 → mkX m (up G m 9 0) F3 → T_X10_readCity [m] (L1, up R1 m 4 (N : Int), F3, E, N + 23) K := fun L1 R1 t1 t2 t3 K k1 k0 F3 a3 x3 => by
      have fr3 : rmX m (N : Int) G F3 E E := ⟨fun b j u _ => (x3 b j u).trans (up_ne (by omega)), fun _ _ _ => rfl⟩
      refine sM_readCity (C := zC) (nm := zf) (go := zf) (c := (N : Int)) (hTm.gg (fun b u v => t2 b (by omega)) (fun j u => (up_ne (by omega)).trans (t3 _ _ (by omega)))) (by omega) ht hb a3 up_eq (t1.gg (fun _ _ _ => rfl) (fun j => up_ne (by omega))) hN (pm_z (fun b j u => ⟨((x3 b j (by omega)).trans (up_ne (by omega))).trans ((gF b j (by omega)).trans (hz1 b j u).1), (hz1 b j u).2⟩)) zC_W (fun y F' E' nm' go' a b d e f => k1 y F' E' nm' go' (al_13 a) b (pw_w d) e (rmX.t fr3 f)) (fun y F' E' a b => k0 y F' E' a (rmX.t fr3 b))
    have nn := nn_pr (tp := tp) (n := x) 901 zC zf zf (skp tp x 0)
    have ncl : ∀ (L1 : Int → Int) (R1 : Int → Int → Int), mcT (N : Int) L1 R1 → (∀ b : Int, b ≤ (N : Int) → L1 b = L b) → (∀ b j : Int, b ≠ (N : Int) → R1 b j = R b j) → mtT m L1 (up R1 m 4 (N : Int)) := fun L1 R1 t1 t2 t3 => hTm.gg (fun b u v => t2 b (by omega)) (fun j u => (up_ne (by omega)).trans (t3 _ _ (by omega)))
    have fin1 : (prs tp x).1.1 = 0 → ∀ (L1 : Int → Int) (R1 : Int → Int → Int), mcT (N : Int) L1 R1 → (∀ b : Int, b ≤ (N : Int) → L1 b = L b) → (∀ b j : Int, b ≠ (N : Int) → R1 b j = R b j) → ∀ (F4 E4 : Int → Int → Int) (nm' go' : Int → Int), F4 m 13 = 0 → pmM (N : Int) (prs tp x).2 nm' go' F4 E4 → ctW (prs tp x).2 → 0 < (prs tp x).2 0 0 0 → rmX m (N : Int) G F4 E E4 → ∀ c9 s9 : Nat, L_X10_city_99 Q [m, x, 0] [] (L1, up (up R1 m 4 (N : Int)) m 3 (N : Int), F4, E4, N + 23) c9 s9 := fun y L1 R1 t1 t2 t3 F4 E4 nm' go' e13 p4 w4 r4 f4 c9 s9 => by
      have hT3 : mtT m L1 (up (up R1 m 4 (N : Int)) m 3 (N : Int)) := (ncl L1 R1 t1 t2 t3).gg (fun _ _ _ => rfl) (fun j u => up_ne (by omega))
      refine m99 hT3 (t1.gg (fun _ _ _ => rfl) (fun j => by rw [up_ne (by omega), up_ne (by omega)])) up_eq hN p4 w4 (fun F5 E5 F3 E3 z5 hE5 d1 d2 d3 d4 d5 => ?_)
      have q5 : ∀ j : Int, j ≠ 17 → j ≠ 44 → F5 m j = F4 m j := fun j u v => by rw [z5, up_ne (by omega), up_ne (by omega)]
      have q5' : ∀ b j : Int, b ≠ m → F5 b j = F4 b j := fun b j u => by rw [z5, up_ne (by omega), up_ne (by omega)]
      refine h1 hx y L1 _ _ E3 (fun b u => t2 b (by omega)) (rfP hT3 ((q5 _ (by omega) (by omega)).trans ((f4.1 _ _ (by omega) (by omega)).trans g6)) (fun i u v => by omega) ((q5 _ (by omega) (by omega)).trans e13) r4 hN ⟨by rw [z5, up_eq], fun i u v => by omega⟩ d1 d2 d3 d4 d5) (fun b j u => ⟨?_, ?_, ?_⟩)
      · rw [up_ne (by omega), up_ne (by omega)]; exact t3 b j (by omega)
      · rw [up_ne (by omega), up_ne (by omega), d1 b j (by omega), q5' b j (by omega), f4.1 b j (by omega) (by omega), gF b j (by omega)]; exact hqz.1 b j (by omega)
      · rw [d2 b j (by omega), hE5 b j (by omega), f4.2 b j (by omega)]
    have fin0 : (prs tp x).1.1 ≠ 0 → ∀ (L1 : Int → Int) (R1 : Int → Int → Int), mcT (N : Int) L1 R1 → (∀ b : Int, b ≤ (N : Int) → L1 b = L b) → (∀ b j : Int, b ≠ (N : Int) → R1 b j = R b j) → ∀ F4 E4 : Int → Int → Int, deM m (prs tp x).1 F4 → rmX m (N : Int) G F4 E E4 → ∀ F5 : Int → Int → Int, F5 = up (up F4 m 1 4) m 2 (prs tp x).1.2 → Q (-1) (L1, up R1 m 4 (N : Int), F5, E4, N + 23) := fun y L1 R1 t1 t2 t3 F4 E4 d4 f4 F5 z5 => by
      have q5 : ∀ b j : Int, (b ≠ m ∨ (j ≠ 1 ∧ j ≠ 2)) → F5 b j = F4 b j := fun b j u => by rw [z5, up_ne (by omega), up_ne (by omega)]
      have qF : ∀ b j : Int, (b < (N : Int) ∧ (b ≠ m ∨ (j ≠ 1 ∧ j ≠ 2 ∧ (j < 6 ∨ 15 < j)))) → F5 b j = F1 b j := fun b j u => (q5 b j (by omega)).trans ((f4.1 b j (by omega) (by omega)).trans (gF b j (by omega)))
      have qE : ∀ b j : Int, b < (N : Int) → E4 b j = E b j := fun b j u => f4.2 b j (by omega)
      refine h0 hx y L1 _ F5 E4 (fun b u => t2 b (by omega)) ⟨ncl L1 R1 t1 t2 t3, (q5 _ _ (by omega)).trans ((f4.1 _ _ (by omega) (by omega)).trans g6), fun i u v => by omega, (q5 _ _ (by omega)).trans d4.2.1, by rw [z5, up_ne (by omega), up_eq], by rw [z5, up_eq, if_pos rfl], ?_, (qF _ _ (by omega)).trans (rx_39 hM), fun i u v => (rx_k hM i u v).fa (fun j => qE _ _ (by omega)), (rx_a hM).fa (qF _ _ (by omega)) (fun b j z => qE _ _ (by omega))⟩ (fun b j u => ⟨?_, ?_, qE b j (by omega)⟩)
      · rcases rx_c hM with z | ⟨z1, z2, z3⟩
        · exact Or.inl ⟨((up_ne (by omega)).trans (t3 _ _ (by omega))).trans z.1, z.2⟩
        · have hmc := es_mc z2
          exact Or.inr ⟨z1, z2.gb (fun b u v => t2 b (by omega)) (fun b u v => t2 b (by omega)) (fun j u => (up_ne (by omega)).trans (t3 _ _ (by omega))) (fun j => (up_ne (by omega)).trans (t3 _ _ (by omega))) (qF _ _ (by omega)) (fun j => qF _ _ (by omega)) (fun b j u => qE _ _ (by omega)), z3.fr (qF _ _ (by omega)) (fun b j u => qE _ _ (by omega))⟩
      · rw [up_ne (by omega)]; exact t3 b j (by omega)
      · rw [qF b j (by omega)]; exact hqz.1 b j (by omega)
    clear h1 h0 h3
    repeat' first
      | exact absurd hc (by decide)
      | simp (disch := omega) only [zLg, zRf, zFq, zEl, zNz, zUf, zUe, zUr, zCe, zSn, gd_0, gd_1, gd_2, gd_3, gd_4, gd_5, gd_6, gd_7, gd_8, gd_9, gd_10, gd_11, gd_12, gd_13, gd_14, gd_15, gd_16, gd_17, gd_18, gd_19, se_0, se_1, se_2, se_3, se_4, se_5, se_6, se_7, se_8, se_9, se_10, se_11, se_12, se_13, se_14, se_15, se_16, se_17, se_18, se_19, e_const, e_load, e_store, e_iinc, e_dup, e_dup2, e_pop, e_iadd, e_isub, e_imul, e_ladd, e_lsub, e_lmul, e_iaddw, e_isubw, e_imulw, e_laddw, e_lsubw, e_lmulw, e_iand, e_ior, e_ishl, e_ishr, e_iushr, e_lcmp, e_imax, e_imin, e_idiv, e_irem, e_ldiv, e_lrem, e_i2l, e_i2b, e_l2i, e_i2c, e_getF, e_getR, e_putF, e_putR, e_putz, e_ald, e_aldR, e_ast, e_astb, e_astz, e_asta, e_len, e_acopy, e_new, e_newa, e_mna, e_this, e_room, e_call0, e_callv0, e_call1, e_callv1, e_inv1, e_invv1, e_call2, e_callv2, e_inv2, e_invv2, e_call3, e_callv3, e_inv3, e_invv3, e_call4, e_callv4, e_inv4, e_invv4, e_call5, e_callv5, e_inv5, e_invv5, e_call6, e_callv6, e_inv6, e_invv6, e_call7, e_callv7, e_inv7, e_invv7, e_call8, e_callv8, e_inv8, e_invv8, e_ret, e_retz, e_retc, e_retb, e_retv, e_skip, e_sco, e_tlen, e_tat, e_iz_eq0, e_iz_eq1, e_iz_ne0, e_iz_ne1, add0, sc_d, sc_t, inI_e, inL_e, up_eq, true_or, or_true, or_false, false_or, and_true, true_and, not_false_eq_true, Int.reduceAdd, Int.reduceSub, Int.reduceMul, Int.reduceNeg, e6]
      | with_reducible first | refine izl_lt (fun hc => ?_) (fun hc => ?_) | refine izl_ge (fun hc => ?_) (fun hc => ?_) | refine izl_eq (fun hc => ?_) (fun hc => ?_) | refine ic_ge (fun hc => ?_) (fun hc => ?_) | refine ic_lt (fun hc => ?_) (fun hc => ?_) | refine ic_ne (fun hc => ?_) (fun hc => ?_) | refine ic_eq (fun hc => ?_) (fun hc => ?_) | refine ic_le (fun hc => ?_) (fun hc => ?_) | refine ic_gt (fun hc => ?_) (fun hc => ?_) | refine iz_eq (fun hc => ?_) (fun hc => ?_) | refine iz_ne (fun hc => ?_) (fun hc => ?_) | refine iz_lt (fun hc => ?_) (fun hc => ?_) | refine iz_ge (fun hc => ?_) (fun hc => ?_) | refine iz_gt (fun hc => ?_) (fun hc => ?_) | refine iz_le (fun hc => ?_) (fun hc => ?_) | refine iz_nu (fun hc => ?_) (fun hc => ?_) | refine iz_nn (fun hc => ?_) (fun hc => ?_)
      | omega
      | (exfalso; omega)
    rw [← hG]
    refine key _ (fun L1 R1 t1 t2 t3 => ?_)
    try simp (disch := omega) only [zLg, zRf, zFq, zEl, zNz, zUf, zUe, zUr, zCe, zSn, gd_0, gd_1, gd_2, gd_3, gd_4, gd_5, gd_6, gd_7, gd_8, gd_9, gd_10, gd_11, gd_12, gd_13, gd_14, gd_15, gd_16, gd_17, gd_18, gd_19, se_0, se_1, se_2, se_3, se_4, se_5, se_6, se_7, se_8, se_9, se_10, se_11, se_12, se_13, se_14, se_15, se_16, se_17, se_18, se_19, e_const, e_load, e_store, e_iinc, e_dup, e_dup2, e_pop, e_iadd, e_isub, e_imul, e_ladd, e_lsub, e_lmul, e_iaddw, e_isubw, e_imulw, e_laddw, e_lsubw, e_lmulw, e_iand, e_ior, e_ishl, e_ishr, e_iushr, e_lcmp, e_imax, e_imin, e_idiv, e_irem, e_ldiv, e_lrem, e_i2l, e_i2b, e_l2i, e_i2c, e_getF, e_getR, e_putF, e_putR, e_putz, e_ald, e_aldR, e_ast, e_astb, e_astz, e_asta, e_len, e_acopy, e_new, e_newa, e_mna, e_this, e_room, e_call0, e_callv0, e_call1, e_callv1, e_inv1, e_invv1, e_call2, e_callv2, e_inv2, e_invv2, e_call3, e_callv3, e_inv3, e_invv3, e_call4, e_callv4, e_inv4, e_invv4, e_call5, e_callv5, e_inv5, e_invv5, e_call6, e_callv6, e_inv6, e_invv6, e_call7, e_callv7, e_inv7, e_invv7, e_call8, e_callv8, e_inv8, e_invv8, e_ret, e_retz, e_retc, e_retb, e_retv, e_skip, e_sco, e_tlen, e_tat, e_iz_eq0, e_iz_eq1, e_iz_ne0, e_iz_ne1, add0, sc_d, sc_t, inI_e, inL_e, up_eq, true_or, or_true, or_false, false_or, and_true, true_and, not_false_eq_true, Int.reduceAdd, Int.reduceSub, Int.reduceMul, Int.reduceNeg, Nat.add_assoc, Nat.reduceAdd]
    refine sM_goesOn (p := 0) (ncl L1 R1 t1 t2 t3) (by omega) ht hb (by rw [up_eq]; decide) ((up_ne (by omega)).trans g7) ((up_ne (by omega)).trans g8) ((up_ne (by omega)).trans g13) (by omega) (by omega) (fun F3 a3 x3 => ?_)
    try simp (disch := omega) only [zLg, zRf, zFq, zEl, zNz, zUf, zUe, zUr, zCe, zSn, gd_0, gd_1, gd_2, gd_3, gd_4, gd_5, gd_6, gd_7, gd_8, gd_9, gd_10, gd_11, gd_12, gd_13, gd_14, gd_15, gd_16, gd_17, gd_18, gd_19, se_0, se_1, se_2, se_3, se_4, se_5, se_6, se_7, se_8, se_9, se_10, se_11, se_12, se_13, se_14, se_15, se_16, se_17, se_18, se_19, e_const, e_load, e_store, e_iinc, e_dup, e_dup2, e_pop, e_iadd, e_isub, e_imul, e_ladd, e_lsub, e_lmul, e_iaddw, e_isubw, e_imulw, e_laddw, e_lsubw, e_lmulw, e_iand, e_ior, e_ishl, e_ishr, e_iushr, e_lcmp, e_imax, e_imin, e_idiv, e_irem, e_ldiv, e_lrem, e_i2l, e_i2b, e_l2i, e_i2c, e_getF, e_getR, e_putF, e_putR, e_putz, e_ald, e_aldR, e_ast, e_astb, e_astz, e_asta, e_len, e_acopy, e_new, e_newa, e_mna, e_this, e_room, e_call0, e_callv0, e_call1, e_callv1, e_inv1, e_invv1, e_call2, e_callv2, e_inv2, e_invv2, e_call3, e_callv3, e_inv3, e_invv3, e_call4, e_callv4, e_inv4, e_invv4, e_call5, e_callv5, e_inv5, e_invv5, e_call6, e_callv6, e_inv6, e_invv6, e_call7, e_callv7, e_inv7, e_invv7, e_call8, e_callv8, e_inv8, e_invv8, e_ret, e_retz, e_retc, e_retb, e_retv, e_skip, e_sco, e_tlen, e_tat, e_iz_eq0, e_iz_eq1, e_iz_ne0, e_iz_ne1, add0, sc_d, sc_t, inI_e, inL_e, up_eq, true_or, or_true, or_false, false_or, and_true, true_and, not_false_eq_true, Int.reduceAdd, Int.reduceSub, Int.reduceMul, Int.reduceNeg]
    refine read L1 R1 t1 t2 t3 _ (fun y F4 E4 nm' go' e13 p4 w4 r4 f4 => ?_) (fun y F4 E4 d4 f4 => ?_) F3 a3 x3
    · have ok := fin1 y L1 R1 t1 t2 t3 F4 E4 nm' go' e13 p4 w4 r4 f4
      clear fin1 fin0 read key
      repeat' first
        | exact absurd hc (by decide)
        | simp (disch := omega) only [zLg, zRf, zFq, zEl, zNz, zUf, zUe, zUr, zCe, zSn, gd_0, gd_1, gd_2, gd_3, gd_4, gd_5, gd_6, gd_7, gd_8, gd_9, gd_10, gd_11, gd_12, gd_13, gd_14, gd_15, gd_16, gd_17, gd_18, gd_19, se_0, se_1, se_2, se_3, se_4, se_5, se_6, se_7, se_8, se_9, se_10, se_11, se_12, se_13, se_14, se_15, se_16, se_17, se_18, se_19, e_const, e_load, e_store, e_iinc, e_dup, e_dup2, e_pop, e_iadd, e_isub, e_imul, e_ladd, e_lsub, e_lmul, e_iaddw, e_isubw, e_imulw, e_laddw, e_lsubw, e_lmulw, e_iand, e_ior, e_ishl, e_ishr, e_iushr, e_lcmp, e_imax, e_imin, e_idiv, e_irem, e_ldiv, e_lrem, e_i2l, e_i2b, e_l2i, e_i2c, e_getF, e_getR, e_putF, e_putR, e_putz, e_ald, e_aldR, e_ast, e_astb, e_astz, e_asta, e_len, e_acopy, e_new, e_newa, e_mna, e_this, e_room, e_call0, e_callv0, e_call1, e_callv1, e_inv1, e_invv1, e_call2, e_callv2, e_inv2, e_invv2, e_call3, e_callv3, e_inv3, e_invv3, e_call4, e_callv4, e_inv4, e_invv4, e_call5, e_callv5, e_inv5, e_invv5, e_call6, e_callv6, e_inv6, e_invv6, e_call7, e_callv7, e_inv7, e_invv7, e_call8, e_callv8, e_inv8, e_invv8, e_ret, e_retz, e_retc, e_retb, e_retv, e_skip, e_sco, e_tlen, e_tat, e_iz_eq0, e_iz_eq1, e_iz_ne0, e_iz_ne1, add0, sc_d, sc_t, inI_e, inL_e, up_eq, true_or, or_true, or_false, false_or, and_true, true_and, not_false_eq_true, Int.reduceAdd, Int.reduceSub, Int.reduceMul, Int.reduceNeg, e13]
        | with_reducible first | refine izl_lt (fun hc => ?_) (fun hc => ?_) | refine izl_ge (fun hc => ?_) (fun hc => ?_) | refine izl_eq (fun hc => ?_) (fun hc => ?_) | refine ic_ge (fun hc => ?_) (fun hc => ?_) | refine ic_lt (fun hc => ?_) (fun hc => ?_) | refine ic_ne (fun hc => ?_) (fun hc => ?_) | refine ic_eq (fun hc => ?_) (fun hc => ?_) | refine ic_le (fun hc => ?_) (fun hc => ?_) | refine ic_gt (fun hc => ?_) (fun hc => ?_) | refine iz_eq (fun hc => ?_) (fun hc => ?_) | refine iz_ne (fun hc => ?_) (fun hc => ?_) | refine iz_lt (fun hc => ?_) (fun hc => ?_) | refine iz_ge (fun hc => ?_) (fun hc => ?_) | refine iz_gt (fun hc => ?_) (fun hc => ?_) | refine iz_le (fun hc => ?_) (fun hc => ?_) | refine iz_nu (fun hc => ?_) (fun hc => ?_) | refine iz_nn (fun hc => ?_) (fun hc => ?_)
        | omega
        | (exfalso; omega)
      all_goals exact ok _ _
    · have ok := fin0 y L1 R1 t1 t2 t3 F4 E4 d4 f4
      have e13 := d4.2.1
      have e14 : up F4 m 1 4 m 14 = (prs tp x).1.2 := (up_ne (by omega)).trans d4.2.2.1
      have nn' : 0 < (prs tp x).1.1 := by
        have : (0 : Int) ≤ (prs tp x).1.1 := nn
        omega
      clear fin1 fin0 read key
      repeat' first
        | exact absurd hc (by decide)
        | simp (disch := omega) only [zLg, zRf, zFq, zEl, zNz, zUf, zUe, zUr, zCe, zSn, gd_0, gd_1, gd_2, gd_3, gd_4, gd_5, gd_6, gd_7, gd_8, gd_9, gd_10, gd_11, gd_12, gd_13, gd_14, gd_15, gd_16, gd_17, gd_18, gd_19, se_0, se_1, se_2, se_3, se_4, se_5, se_6, se_7, se_8, se_9, se_10, se_11, se_12, se_13, se_14, se_15, se_16, se_17, se_18, se_19, e_const, e_load, e_store, e_iinc, e_dup, e_dup2, e_pop, e_iadd, e_isub, e_imul, e_ladd, e_lsub, e_lmul, e_iaddw, e_isubw, e_imulw, e_laddw, e_lsubw, e_lmulw, e_iand, e_ior, e_ishl, e_ishr, e_iushr, e_lcmp, e_imax, e_imin, e_idiv, e_irem, e_ldiv, e_lrem, e_i2l, e_i2b, e_l2i, e_i2c, e_getF, e_getR, e_putF, e_putR, e_putz, e_ald, e_aldR, e_ast, e_astb, e_astz, e_asta, e_len, e_acopy, e_new, e_newa, e_mna, e_this, e_room, e_call0, e_callv0, e_call1, e_callv1, e_inv1, e_invv1, e_call2, e_callv2, e_inv2, e_invv2, e_call3, e_callv3, e_inv3, e_invv3, e_call4, e_callv4, e_inv4, e_invv4, e_call5, e_callv5, e_inv5, e_invv5, e_call6, e_callv6, e_inv6, e_invv6, e_call7, e_callv7, e_inv7, e_invv7, e_call8, e_callv8, e_inv8, e_invv8, e_ret, e_retz, e_retc, e_retb, e_retv, e_skip, e_sco, e_tlen, e_tat, e_iz_eq0, e_iz_eq1, e_iz_ne0, e_iz_ne1, add0, sc_d, sc_t, inI_e, inL_e, up_eq, true_or, or_true, or_false, false_or, and_true, true_and, not_false_eq_true, Int.reduceAdd, Int.reduceSub, Int.reduceMul, Int.reduceNeg, e13, e14]
        | with_reducible first | refine izl_lt (fun hc => ?_) (fun hc => ?_) | refine izl_ge (fun hc => ?_) (fun hc => ?_) | refine izl_eq (fun hc => ?_) (fun hc => ?_) | refine ic_ge (fun hc => ?_) (fun hc => ?_) | refine ic_lt (fun hc => ?_) (fun hc => ?_) | refine ic_ne (fun hc => ?_) (fun hc => ?_) | refine ic_eq (fun hc => ?_) (fun hc => ?_) | refine ic_le (fun hc => ?_) (fun hc => ?_) | refine ic_gt (fun hc => ?_) (fun hc => ?_) | refine iz_eq (fun hc => ?_) (fun hc => ?_) | refine iz_ne (fun hc => ?_) (fun hc => ?_) | refine iz_lt (fun hc => ?_) (fun hc => ?_) | refine iz_ge (fun hc => ?_) (fun hc => ?_) | refine iz_gt (fun hc => ?_) (fun hc => ?_) | refine iz_le (fun hc => ?_) (fun hc => ?_) | refine iz_nu (fun hc => ?_) (fun hc => ?_) | refine iz_nn (fun hc => ?_) (fun hc => ?_)
        | omega
        | (exfalso; omega)
      all_goals exact ok _ rfl
  · have ok : Q (-1) (L, R, up (up F1 m 1 2) m 2 (-1), E, N) := h3 hx _ E (qM.c hqz (by decide))
    clear h1 h0 h3
    repeat' first
      | exact absurd hc (by decide)
      | simp (disch := omega) only [ub_X10_city_17, ue_X10_refused, t_X10_refused, zLg, zRf, zFq, zEl, zNz, zUf, zUe, zUr, zCe, zSn, gd_0, gd_1, gd_2, gd_3, gd_4, gd_5, gd_6, gd_7, gd_8, gd_9, gd_10, gd_11, gd_12, gd_13, gd_14, gd_15, gd_16, gd_17, gd_18, gd_19, se_0, se_1, se_2, se_3, se_4, se_5, se_6, se_7, se_8, se_9, se_10, se_11, se_12, se_13, se_14, se_15, se_16, se_17, se_18, se_19, e_const, e_load, e_store, e_iinc, e_dup, e_dup2, e_pop, e_iadd, e_isub, e_imul, e_ladd, e_lsub, e_lmul, e_iaddw, e_isubw, e_imulw, e_laddw, e_lsubw, e_lmulw, e_iand, e_ior, e_ishl, e_ishr, e_iushr, e_lcmp, e_imax, e_imin, e_idiv, e_irem, e_ldiv, e_lrem, e_i2l, e_i2b, e_l2i, e_i2c, e_getF, e_getR, e_putF, e_putR, e_putz, e_ald, e_aldR, e_ast, e_astb, e_astz, e_asta, e_len, e_acopy, e_new, e_newa, e_mna, e_this, e_room, e_call0, e_callv0, e_call1, e_callv1, e_inv1, e_invv1, e_call2, e_callv2, e_inv2, e_invv2, e_call3, e_callv3, e_inv3, e_invv3, e_call4, e_callv4, e_inv4, e_invv4, e_call5, e_callv5, e_inv5, e_invv5, e_call6, e_callv6, e_inv6, e_invv6, e_call7, e_callv7, e_inv7, e_invv7, e_call8, e_callv8, e_inv8, e_invv8, e_ret, e_retz, e_retc, e_retb, e_retv, e_skip, e_sco, e_tlen, e_tat, e_iz_eq0, e_iz_eq1, e_iz_ne0, e_iz_ne1, add0, sc_d, sc_t, inI_e, inL_e, up_eq, true_or, or_true, or_false, false_or, and_true, true_and, not_false_eq_true, Int.reduceAdd, Int.reduceSub, Int.reduceMul, Int.reduceNeg, e6]
      | with_reducible first | refine izl_lt (fun hc => ?_) (fun hc => ?_) | refine izl_ge (fun hc => ?_) (fun hc => ?_) | refine izl_eq (fun hc => ?_) (fun hc => ?_) | refine ic_ge (fun hc => ?_) (fun hc => ?_) | refine ic_lt (fun hc => ?_) (fun hc => ?_) | refine ic_ne (fun hc => ?_) (fun hc => ?_) | refine ic_eq (fun hc => ?_) (fun hc => ?_) | refine ic_le (fun hc => ?_) (fun hc => ?_) | refine ic_gt (fun hc => ?_) (fun hc => ?_) | refine iz_eq (fun hc => ?_) (fun hc => ?_) | refine iz_ne (fun hc => ?_) (fun hc => ?_) | refine iz_lt (fun hc => ?_) (fun hc => ?_) | refine iz_ge (fun hc => ?_) (fun hc => ?_) | refine iz_gt (fun hc => ?_) (fun hc => ?_) | refine iz_le (fun hc => ?_) (fun hc => ?_) | refine iz_nu (fun hc => ?_) (fun hc => ?_) | refine iz_nn (fun hc => ?_) (fun hc => ?_)
      | omega
      | (exfalso; omega)
    all_goals exact ok
end CITYM

/-! ===== the class reads the rings ===== -/
def rgC (C : Cy) (cnt : Int) (row : Int → Int) : Cy := fun x y z => if x = 0 ∧ y = 0 ∧ z = 0 then cnt else if x = 1 then row y else C x y z
theorem rgC_0 {C : Cy} {cnt : Int} {row : Int → Int} : rgC C cnt row 0 0 0 = cnt := if_pos ⟨rfl, rfl, rfl⟩
theorem rgC_1 {C : Cy} {cnt y z : Int} {row : Int → Int} : rgC C cnt row 1 y z = row y := by
  unfold rgC
  rw [if_neg (by omega), if_pos rfl]
theorem rgC_n {C : Cy} {cnt x y z : Int} {row : Int → Int} (h : x ≠ 1) (h2 : x ≠ 0 ∨ y ≠ 0 ∨ z ≠ 0) : rgC C cnt row x y z = C x y z := by
  unfold rgC
  rw [if_neg (by omega), if_neg h]
/-- where the k-th width stands -/
def rp (tp : Int → Int) (n i : Int) : Nat → Int
  | 0 => tkn tp n i
  | k + 1 => tkn tp n (tkn tp n (rp tp n i k))
def rgF (tp : Int → Int) (n : Int) : Nat → Int → Int → Int → Int × Int × Int
  | 0, c, _, j => ((if kdt tp n j = 2 then 5 else 1), j, c)
  | f + 1, c, w, j => if fW tp n 1 w j = 0 then (if kdt tp n (tkn tp n j) = 4 then rgF tp n f (c + 1) (nmt tp n j) (tkn tp n (tkn tp n j)) else ((if c + 1 < 2 then 1 else 0), tkn tp n j, c + 1)) else (fW tp n 1 w j, j, c)
def ringM (tp : Int → Int) (n : Int) (C : Cy) (i : Int) : Int × Int := if C 0 0 0 = 0 then ((rgF tp n 6 0 99 (tkn tp n i)).1, (rgF tp n 6 0 99 (tkn tp n i)).2.1) else (3, i)
def ringC (tp : Int → Int) (n : Int) (C : Cy) (i : Int) : Cy := rgC C (rgF tp n 6 0 99 (tkn tp n i)).2.2 (fun y => nmt tp n (rp tp n i y.toNat))
theorem rgF_b {tp : Int → Int} {n i : Int} : ∀ (f : Nat) (c w j : Int), 0 ≤ c → w ≤ 99 → j = rp tp n i c.toNat → (rgF tp n f c w j).1 = 0 → 2 ≤ (rgF tp n f c w j).2.2 ∧ c < (rgF tp n f c w j).2.2 ∧ (rgF tp n f c w j).2.2 ≤ c + f ∧ ∀ y : Int, c ≤ y → y < (rgF tp n f c w j).2.2 → 1 ≤ nmt tp n (rp tp n i y.toNat) ∧ nmt tp n (rp tp n i y.toNat) ≤ 99 := by
  intro f
  induction f with
  | zero =>
    intro c w j c0 hw hj h
    unfold rgF at h
    by_cases z : kdt tp n j = 2
    · rw [if_pos z] at h; exact absurd h (show (5 : Int) ≠ 0 by decide)
    · rw [if_neg z] at h; exact absurd h (show (1 : Int) ≠ 0 by decide)
  | succ f ih =>
    intro c w j c0 hw hj h
    unfold rgF at h ⊢
    by_cases z : fW tp n 1 w j = 0
    · rw [if_pos z] at h ⊢
      have vb := (fW_z z).2
      by_cases z2 : kdt tp n (tkn tp n j) = 4
      · rw [if_pos z2] at h ⊢
        have e : (c + 1).toNat = c.toNat + 1 := by omega
        obtain ⟨a1, a2, a3, a4⟩ := ih (c + 1) (nmt tp n j) (tkn tp n (tkn tp n j)) (by omega) (by omega) (by rw [e, hj]; rfl) h
        refine ⟨a1, by omega, by omega, fun y u v => ?_⟩
        by_cases y1 : y = c
        · rw [y1, ← hj]; omega
        · exact a4 y (by omega) v
      · rw [if_neg z2] at h ⊢
        by_cases z3 : c + 1 < 2
        · rw [if_pos z3] at h; exact absurd h (show (1 : Int) ≠ 0 by decide)
        · refine ⟨by show (2 : Int) ≤ c + 1; omega, by show c < c + 1; omega, by show c + 1 ≤ _; omega, fun y u v => ?_⟩
          have v' : y < c + 1 := v
          have y1 : y = c := by omega
          rw [y1, ← hj]; omega
    · rw [if_neg z] at h; exact absurd h z
theorem psW_rg {C : Cy} {nm go row : Int → Int} {cnt : Int} (hP : psW C nm go) (hz : C 0 0 0 = 0) (c0 : 2 ≤ cnt) (c1 : cnt ≤ 6) (hb : ∀ y : Int, 0 ≤ y → y < cnt → 1 ≤ row y ∧ row y ≤ 99) : psW (rgC C cnt row) nm go := by
  have n : ∀ x y z : Int, x ≠ 1 → (x ≠ 0 ∨ y ≠ 0 ∨ z ≠ 0) → rgC C cnt row x y z = C x y z := fun x y z a b => rgC_n a b
  have hW := pw_w hP
  have z3 := pw_0 hP hz
  have hw : ctW (rgC C cnt row) := by
    unfold ctW
    simp (disch := omega) only [n, rgC_0, rgC_1]
    refine ⟨⟨by omega, by omega⟩, cw_1 hW, cw_2 hW, cw_3 hW, cw_4 hW, hb, fun g a b => absurd (show C 0 1 0 = 0 by omega) (by omega), fun g a b => absurd (show C 0 1 0 = 0 by omega) (by omega), fun g a b => absurd (show C 0 1 0 = 0 by omega) (by omega), fun g a b => absurd (show C 0 1 0 = 0 by omega) (by omega), fun g a b => absurd (show C 0 1 0 = 0 by omega) (by omega), fun g a b => absurd (show C 0 1 0 = 0 by omega) (by omega), fun g a b => absurd (show C 0 1 0 = 0 by omega) (by omega), fun g a b => absurd (show C 0 2 0 = 0 by omega) (by omega), fun g a b => absurd (show C 0 2 0 = 0 by omega) (by omega), fun g a b => (pw_s hP g a (by omega)).2.1, fun g a b => (pw_s hP g a (by omega)).2.2, fun g a b => absurd (show C 0 4 0 = 0 by omega) (by omega), fun g a b => absurd (show C 0 4 0 = 0 by omega) (by omega), fun g a b => absurd (show C 0 4 0 = 0 by omega) (by omega), fun g a b => absurd (show C 0 4 0 = 0 by omega) (by omega), fun g a b => absurd (show C 0 4 0 = 0 by omega) (by omega), fun g a b => absurd (show C 0 4 0 = 0 by omega) (by omega), cw_k hW, cw_k4 hW, cw_k5 hW, cw_k6 hW⟩
  refine ⟨hw, fun z => ?_, ?_, fun g a b => ?_, fun q a b => ?_⟩
  · rw [rgC_0] at z; omega
  · rw [rgC_0]; exact Or.inr c0
  · rw [n 4 g 0 (by omega) (by omega), n 4 g 1 (by omega) (by omega), n 4 g 2 (by omega) (by omega)]; exact pw_s hP g a b
  · have e : kN (rgC C cnt row) = kN C := by
      unfold kN
      rw [n 0 1 0 (by omega) (by omega), n 0 2 0 (by omega) (by omega), n 0 3 0 (by omega) (by omega), n 0 4 0 (by omega) (by omega)]
    rw [e] at b
    rw [n 0 3 0 (by omega) (by omega)]
    exact pw_g hP q a b
section RINGX
variable {L : Int → Int} {R F F' E E' : Int → Int → Int} {N : Nat} {Q : xQ} {r q n i j s p a c k v w g t lo hi ro x cnt : Int} {C : Cy} {tp nm go row : Int → Int} {c9 s9 : Nat}
theorem pxM_rg (hX : pxM r s C nm go F E) (hP : psW C nm go) (hz : C 0 0 0 = 0) (c0 : 2 ≤ cnt) (c1 : cnt ≤ 6) (h0 : F' s 0 = cnt) (hw : ∀ y : Int, 0 ≤ y → y < cnt → E' (s + 1) y = row y) (h13 : F' r 13 = F r 13) (h9 : F' r 9 = 0) (hF : ∀ b j : Int, s ≤ b → b < s + 105 → (b ≠ s ∨ j ≠ 0) → F' b j = F b j) (hE : ∀ b j : Int, s ≤ b → b < s + 105 → b ≠ s + 1 → E' b j = E b j) (hE1 : ∀ q : Int, E' (r + 1) q = E (r + 1) q) (hE2 : ∀ q : Int, E' (r + 2) q = E (r + 2) q) : pxM r s (rgC C cnt row) nm go F' E' := by
  have n : ∀ x y z : Int, x ≠ 1 → (x ≠ 0 ∨ y ≠ 0 ∨ z ≠ 0) → rgC C cnt row x y z = C x y z := fun x y z a b => rgC_n a b
  have hM := px_c hX
  have hW := pw_w hP
  have z3 := pw_0 hP hz
  have b3 := cw_3 hW
  have hwh : ∀ k, wh (rgC C cnt row) k = wh C k := fun k => by
    funext i
    unfold wh
    rw [n 6 k 6 (by omega) (by omega), n 6 k 5 (by omega) (by omega), n 6 k i (by omega) (by omega)]
  have hp : ∀ k, pn (rgC C cnt row) k = pn C k := fun k => by unfold pn; rw [n 6 k 6 (by omega) (by omega), n 6 k 4 (by omega) (by omega)]
  have hpt : ∀ k, pt (rgC C cnt row) k = pt C k := fun k => by
    funext i
    unfold pt
    rw [n 6 k 0 (by omega) (by omega), n 6 k 3 (by omega) (by omega), n 6 k 6 (by omega) (by omega), n 6 k 5 (by omega) (by omega), n 6 k i (by omega) (by omega), hp]
  have hcm : ctM s (rgC C cnt row) F' E' := by
    unfold ctM
    simp (disch := omega) only [n, rgC_0, rgC_1, hwh, hpt]
    refine ⟨h0, (hF _ _ (by omega) (by omega) (by omega)).trans (cm_1 hM), (hF _ _ (by omega) (by omega) (by omega)).trans (cm_2 hM), (hF _ _ (by omega) (by omega) (by omega)).trans (cm_3 hM), (hF _ _ (by omega) (by omega) (by omega)).trans (cm_4 hM), hw, fun q z x1 x2 x3 x4 => absurd (show C 0 1 0 = 0 by omega) (by omega), fun q z x1 x2 x3 x4 => absurd (show C 0 2 0 = 0 by omega) (by omega), fun q z x1 x2 x3 x4 => (hE _ _ (by omega) (by omega) (by omega)).trans (px_s hX q z x1 (by omega) (by omega) x4), fun q z x1 x2 x3 x4 => absurd (show C 0 4 0 = 0 by omega) (by omega), fun q x1 x2 => thM_fr (cm_wh hM q x1 x2) (fun j => hF _ _ (by omega) (by omega) (by omega)) (fun b j u v => hE _ _ (by omega) (by omega) (by omega)), fun q x1 x2 => thM_fr (cm_pt hM q x1 x2) (fun j => hF _ _ (by omega) (by omega) (by omega)) (fun b j u v => hE _ _ (by omega) (by omega) (by omega))⟩
  have e : kN (rgC C cnt row) = kN C := by
    unfold kN
    rw [n 0 1 0 (by omega) (by omega), n 0 2 0 (by omega) (by omega), n 0 3 0 (by omega) (by omega), n 0 4 0 (by omega) (by omega)]
  refine ⟨hcm, fun g w x1 x2 x3 x4 => ?_, by rw [e]; exact h13.trans (px_k hX), fun q a b => ?_, fun q a b => ?_, h9⟩
  · rw [n 4 g w (by omega) (by omega)]
    exact (hE _ _ (by omega) (by omega) (by omega)).trans (px_s hX g w x1 x2 x3 x4)
  · rw [e] at b; rw [hE1 q]; exact px_n hX q a b
  · rw [e] at b; rw [hE2 q]; exact px_g hX q a b
theorem sX_ringsLine (hT : rdT r q L R) (n9 : n ≤ 900) (ht : ∀ i : Int, 0 ≤ i → i < n → E q i = tp i) (hM : rdM r tp n i F) (hk : kdt tp n i ≠ 0) (hc : ctT s L R) (h10 : R r 10 = s) (dis : s + 105 ≤ r ∨ r + 4 ≤ s) (qa : q < r ∨ r + 4 ≤ q) (qs : q < s ∨ s + 105 ≤ q) (hP : pxM r s C nm go F E) (hW : psW C nm go) (h1 : (ringM tp n C i).1 = 0 → ∀ F' E' : Int → Int → Int, rdM r tp n (ringM tp n C i).2 F' → pxM r s (ringC tp n C i) nm go F' E' → rfX r s F F' E E' → Q 1 (L, R, F', E', N)) (h0 : (ringM tp n C i).1 ≠ 0 → ∀ F' E' : Int → Int → Int, F' r 9 = (ringM tp n C i).1 → F' r 0 = (ringM tp n C i).2 → rfX r s F F' E E' → Q 0 (L, R, F', E', N)) : T_X4_ringsLine [r] (L, R, F, E, N) Q := by
  have pr := rd_p hT
  have s0 := ct_p hc
  have wW := pw_w hW
  have b0 := cw_0 wW
  have b1 := cw_1 wW
  have b2 := cw_2 wW
  have b3 := cw_3 wW
  have b4 := cw_4 wW
  have hPc := px_c hP
  have f0 := cm_0 hPc
  have f1 := cm_1 hPc
  have f2 := cm_2 hPc
  have f3 := cm_3 hPc
  have f4 := cm_4 hPc
  have kd : kN C = C 0 1 0 + C 0 2 0 + C 0 3 0 + C 0 4 0 := rfl
  have hcc := hc
  have e3 := rm_3 hM
  have r5 := ct_5 hc
  have rl1 := ct_l1 hc
  unfold ringM at h1 h0
  by_cases hz : C 0 0 0 = 0
  rotate_left
  · rw [if_neg hz] at h0
    clear h1
    repeat' first
      | exact absurd hc (by decide)
      | with_reducible refine sX_flaw pr (fun F' a b d => ?_)
      | simp (disch := omega) only [t_X4_ringsLine, ue_X4_ringsLine, zLg, zRf, zFq, zEl, zNz, zUf, zUe, zUr, zCe, zSn, gd_0, gd_1, gd_2, gd_3, gd_4, gd_5, gd_6, gd_7, gd_8, gd_9, gd_10, gd_11, gd_12, gd_13, gd_14, gd_15, gd_16, gd_17, gd_18, gd_19, se_0, se_1, se_2, se_3, se_4, se_5, se_6, se_7, se_8, se_9, se_10, se_11, se_12, se_13, se_14, se_15, se_16, se_17, se_18, se_19, e_const, e_load, e_store, e_iinc, e_dup, e_dup2, e_pop, e_iadd, e_isub, e_imul, e_ladd, e_lsub, e_lmul, e_iaddw, e_isubw, e_imulw, e_laddw, e_lsubw, e_lmulw, e_iand, e_ior, e_ishl, e_ishr, e_iushr, e_lcmp, e_imax, e_imin, e_idiv, e_irem, e_ldiv, e_lrem, e_i2l, e_i2b, e_l2i, e_i2c, e_getF, e_getR, e_putF, e_putR, e_putz, e_ald, e_aldR, e_ast, e_astb, e_astz, e_asta, e_len, e_acopy, e_new, e_newa, e_mna, e_this, e_room, e_call0, e_callv0, e_call1, e_callv1, e_inv1, e_invv1, e_call2, e_callv2, e_inv2, e_invv2, e_call3, e_callv3, e_inv3, e_invv3, e_call4, e_callv4, e_inv4, e_invv4, e_call5, e_callv5, e_inv5, e_invv5, e_call6, e_callv6, e_inv6, e_invv6, e_call7, e_callv7, e_inv7, e_invv7, e_call8, e_callv8, e_inv8, e_invv8, e_ret, e_retz, e_retc, e_retb, e_retv, e_skip, e_sco, e_tlen, e_tat, e_iz_eq0, e_iz_eq1, e_iz_ne0, e_iz_ne1, add0, sc_d, sc_t, inI_e, inL_e, up_eq, true_or, or_true, or_false, false_or, and_true, true_and, not_false_eq_true, Int.reduceAdd, Int.reduceSub, Int.reduceMul, Int.reduceNeg, h10, f0, e3]
      | with_reducible first | refine izl_lt (fun hc => ?_) (fun hc => ?_) | refine izl_ge (fun hc => ?_) (fun hc => ?_) | refine izl_eq (fun hc => ?_) (fun hc => ?_) | refine ic_ge (fun hc => ?_) (fun hc => ?_) | refine ic_lt (fun hc => ?_) (fun hc => ?_) | refine ic_ne (fun hc => ?_) (fun hc => ?_) | refine ic_eq (fun hc => ?_) (fun hc => ?_) | refine ic_le (fun hc => ?_) (fun hc => ?_) | refine ic_gt (fun hc => ?_) (fun hc => ?_) | refine iz_eq (fun hc => ?_) (fun hc => ?_) | refine iz_ne (fun hc => ?_) (fun hc => ?_) | refine iz_lt (fun hc => ?_) (fun hc => ?_) | refine iz_ge (fun hc => ?_) (fun hc => ?_) | refine iz_gt (fun hc => ?_) (fun hc => ?_) | refine iz_le (fun hc => ?_) (fun hc => ?_) | refine iz_nu (fun hc => ?_) (fun hc => ?_) | refine iz_nn (fun hc => ?_) (fun hc => ?_)
      | omega
      | (exfalso; omega)
    all_goals exact h0 (show (3 : Int) ≠ 0 by decide) _ _ (by assumption) (by assumption) (rfX.y rfX.s (by assumption))
  rw [if_pos hz] at h0 h1
  generalize hres : rgF tp n 6 0 99 (tkn tp n i) = res at h0 h1
  unfold ringC at h1
  rw [hres] at h1
  have key : L_X4_ringsLine_25 Q [r, 99, 0] [] (L, R, F, E, N) 0 0 := by
    unfold L_X4_ringsLine_25
    refine lpw (fun nn lo st h c9 s9 => ∃ (c w j : Int) (F' E' : Int → Int → Int), lo = [r, w, c] ∧ st = [] ∧ h = (L, R, F', E', N) ∧ 0 ≤ c ∧ (nn : Int) = 6 - c ∧ w ≤ 99 ∧ rdM r tp n j F' ∧ kdt tp n j ≠ 0 ∧ tkn tp n j = rp tp n i c.toNat ∧ rgF tp n nn c w (tkn tp n j) = res ∧ tkX r F F' ∧ (∀ y : Int, 0 ≤ y → y < c → E' (s + 1) y = nmt tp n (rp tp n i y.toNat)) ∧ (∀ b j : Int, b ≠ s + 1 → E' b j = E b j)) ?_ (n := 6) ⟨0, 99, i, F, E, rfl, rfl, rfl, by omega, by omega, by omega, hM, hk, rfl, hres, tkX.s, fun y u v => by omega, fun b j z => rfl⟩
    rintro nn kk hkk lo st h c9 s9 ⟨c, w, j, F1, E1, rfl, rfl, rfl, c0, hn1, w9, hM1, hk1, hj, hr1, tk1, hw1, hE1⟩
    have ht1 : ∀ i : Int, 0 ≤ i → i < n → E1 q i = tp i := fun i a b => (hE1 _ _ (by omega)).trans (ht i a b)
    try simp (disch := omega) only [zLg, zRf, zFq, zEl, zNz, zUf, zUe, zUr, zCe, zSn, gd_0, gd_1, gd_2, gd_3, gd_4, gd_5, gd_6, gd_7, gd_8, gd_9, gd_10, gd_11, gd_12, gd_13, gd_14, gd_15, gd_16, gd_17, gd_18, gd_19, se_0, se_1, se_2, se_3, se_4, se_5, se_6, se_7, se_8, se_9, se_10, se_11, se_12, se_13, se_14, se_15, se_16, se_17, se_18, se_19, e_const, e_load, e_store, e_iinc, e_dup, e_dup2, e_pop, e_iadd, e_isub, e_imul, e_ladd, e_lsub, e_lmul, e_iaddw, e_isubw, e_imulw, e_laddw, e_lsubw, e_lmulw, e_iand, e_ior, e_ishl, e_ishr, e_iushr, e_lcmp, e_imax, e_imin, e_idiv, e_irem, e_ldiv, e_lrem, e_i2l, e_i2b, e_l2i, e_i2c, e_getF, e_getR, e_putF, e_putR, e_putz, e_ald, e_aldR, e_ast, e_astb, e_astz, e_asta, e_len, e_acopy, e_new, e_newa, e_mna, e_this, e_room, e_call0, e_callv0, e_call1, e_callv1, e_inv1, e_invv1, e_call2, e_callv2, e_inv2, e_invv2, e_call3, e_callv3, e_inv3, e_invv3, e_call4, e_callv4, e_inv4, e_invv4, e_call5, e_callv5, e_inv5, e_invv5, e_call6, e_callv6, e_inv6, e_invv6, e_call7, e_callv7, e_inv7, e_invv7, e_call8, e_callv8, e_inv8, e_invv8, e_ret, e_retz, e_retc, e_retb, e_retv, e_skip, e_sco, e_tlen, e_tat, e_iz_eq0, e_iz_eq1, e_iz_ne0, e_iz_ne1, add0, sc_d, sc_t, inI_e, inL_e, up_eq, true_or, or_true, or_false, false_or, and_true, true_and, not_false_eq_true, Int.reduceAdd, Int.reduceSub, Int.reduceMul, Int.reduceNeg]
    refine sX_go hT n9 ht1 hM1 hk1 (fun F2 g1 g2 => ?_)
    have tk2 := tkX.t tk1 (tkX.o g2)
    have e3 := rm_3 g1
    have e5 := rm_5 g1
    by_cases c6 : c < 6
    rotate_left
    · have n0 : nn = 0 := by omega
      subst n0
      unfold rgF at hr1
      subst hr1
      clear h1 hkk
      by_cases zk : kdt tp n (tkn tp n j) = 2
      · rw [if_pos zk] at h0
        repeat' first
          | exact absurd hc (by decide)
          | with_reducible refine sX_flaw pr (fun F' a b d => ?_)
          | simp (disch := omega) only [ub_X4_ringsLine_103, ub_X4_ringsLine_49, zLg, zRf, zFq, zEl, zNz, zUf, zUe, zUr, zCe, zSn, gd_0, gd_1, gd_2, gd_3, gd_4, gd_5, gd_6, gd_7, gd_8, gd_9, gd_10, gd_11, gd_12, gd_13, gd_14, gd_15, gd_16, gd_17, gd_18, gd_19, se_0, se_1, se_2, se_3, se_4, se_5, se_6, se_7, se_8, se_9, se_10, se_11, se_12, se_13, se_14, se_15, se_16, se_17, se_18, se_19, e_const, e_load, e_store, e_iinc, e_dup, e_dup2, e_pop, e_iadd, e_isub, e_imul, e_ladd, e_lsub, e_lmul, e_iaddw, e_isubw, e_imulw, e_laddw, e_lsubw, e_lmulw, e_iand, e_ior, e_ishl, e_ishr, e_iushr, e_lcmp, e_imax, e_imin, e_idiv, e_irem, e_ldiv, e_lrem, e_i2l, e_i2b, e_l2i, e_i2c, e_getF, e_getR, e_putF, e_putR, e_putz, e_ald, e_aldR, e_ast, e_astb, e_astz, e_asta, e_len, e_acopy, e_new, e_newa, e_mna, e_this, e_room, e_call0, e_callv0, e_call1, e_callv1, e_inv1, e_invv1, e_call2, e_callv2, e_inv2, e_invv2, e_call3, e_callv3, e_inv3, e_invv3, e_call4, e_callv4, e_inv4, e_invv4, e_call5, e_callv5, e_inv5, e_invv5, e_call6, e_callv6, e_inv6, e_invv6, e_call7, e_callv7, e_inv7, e_invv7, e_call8, e_callv8, e_inv8, e_invv8, e_ret, e_retz, e_retc, e_retb, e_retv, e_skip, e_sco, e_tlen, e_tat, e_iz_eq0, e_iz_eq1, e_iz_ne0, e_iz_ne1, add0, sc_d, sc_t, inI_e, inL_e, up_eq, true_or, or_true, or_false, false_or, and_true, true_and, not_false_eq_true, Int.reduceAdd, Int.reduceSub, Int.reduceMul, Int.reduceNeg, e3, e5]
          | with_reducible first | refine izl_lt (fun hc => ?_) (fun hc => ?_) | refine izl_ge (fun hc => ?_) (fun hc => ?_) | refine izl_eq (fun hc => ?_) (fun hc => ?_) | refine ic_ge (fun hc => ?_) (fun hc => ?_) | refine ic_lt (fun hc => ?_) (fun hc => ?_) | refine ic_ne (fun hc => ?_) (fun hc => ?_) | refine ic_eq (fun hc => ?_) (fun hc => ?_) | refine ic_le (fun hc => ?_) (fun hc => ?_) | refine ic_gt (fun hc => ?_) (fun hc => ?_) | refine iz_eq (fun hc => ?_) (fun hc => ?_) | refine iz_ne (fun hc => ?_) (fun hc => ?_) | refine iz_lt (fun hc => ?_) (fun hc => ?_) | refine iz_ge (fun hc => ?_) (fun hc => ?_) | refine iz_gt (fun hc => ?_) (fun hc => ?_) | refine iz_le (fun hc => ?_) (fun hc => ?_) | refine iz_nu (fun hc => ?_) (fun hc => ?_) | refine iz_nn (fun hc => ?_) (fun hc => ?_)
          | omega
          | (exfalso; omega)
        all_goals exact h0 (show (5 : Int) ≠ 0 by decide) _ _ (by assumption) (by assumption) (rfX.t (rfX.k rfX.s tk2) (fun b j u v => ⟨(by assumption : tkY r F2 _) b j (by omega), hE1 b j (by omega)⟩))
      · rw [if_neg zk] at h0
        repeat' first
          | exact absurd hc (by decide)
          | with_reducible refine sX_flaw pr (fun F' a b d => ?_)
          | simp (disch := omega) only [ub_X4_ringsLine_103, ub_X4_ringsLine_49, zLg, zRf, zFq, zEl, zNz, zUf, zUe, zUr, zCe, zSn, gd_0, gd_1, gd_2, gd_3, gd_4, gd_5, gd_6, gd_7, gd_8, gd_9, gd_10, gd_11, gd_12, gd_13, gd_14, gd_15, gd_16, gd_17, gd_18, gd_19, se_0, se_1, se_2, se_3, se_4, se_5, se_6, se_7, se_8, se_9, se_10, se_11, se_12, se_13, se_14, se_15, se_16, se_17, se_18, se_19, e_const, e_load, e_store, e_iinc, e_dup, e_dup2, e_pop, e_iadd, e_isub, e_imul, e_ladd, e_lsub, e_lmul, e_iaddw, e_isubw, e_imulw, e_laddw, e_lsubw, e_lmulw, e_iand, e_ior, e_ishl, e_ishr, e_iushr, e_lcmp, e_imax, e_imin, e_idiv, e_irem, e_ldiv, e_lrem, e_i2l, e_i2b, e_l2i, e_i2c, e_getF, e_getR, e_putF, e_putR, e_putz, e_ald, e_aldR, e_ast, e_astb, e_astz, e_asta, e_len, e_acopy, e_new, e_newa, e_mna, e_this, e_room, e_call0, e_callv0, e_call1, e_callv1, e_inv1, e_invv1, e_call2, e_callv2, e_inv2, e_invv2, e_call3, e_callv3, e_inv3, e_invv3, e_call4, e_callv4, e_inv4, e_invv4, e_call5, e_callv5, e_inv5, e_invv5, e_call6, e_callv6, e_inv6, e_invv6, e_call7, e_callv7, e_inv7, e_invv7, e_call8, e_callv8, e_inv8, e_invv8, e_ret, e_retz, e_retc, e_retb, e_retv, e_skip, e_sco, e_tlen, e_tat, e_iz_eq0, e_iz_eq1, e_iz_ne0, e_iz_ne1, add0, sc_d, sc_t, inI_e, inL_e, up_eq, true_or, or_true, or_false, false_or, and_true, true_and, not_false_eq_true, Int.reduceAdd, Int.reduceSub, Int.reduceMul, Int.reduceNeg, e3, e5]
          | with_reducible first | refine izl_lt (fun hc => ?_) (fun hc => ?_) | refine izl_ge (fun hc => ?_) (fun hc => ?_) | refine izl_eq (fun hc => ?_) (fun hc => ?_) | refine ic_ge (fun hc => ?_) (fun hc => ?_) | refine ic_lt (fun hc => ?_) (fun hc => ?_) | refine ic_ne (fun hc => ?_) (fun hc => ?_) | refine ic_eq (fun hc => ?_) (fun hc => ?_) | refine ic_le (fun hc => ?_) (fun hc => ?_) | refine ic_gt (fun hc => ?_) (fun hc => ?_) | refine iz_eq (fun hc => ?_) (fun hc => ?_) | refine iz_ne (fun hc => ?_) (fun hc => ?_) | refine iz_lt (fun hc => ?_) (fun hc => ?_) | refine iz_ge (fun hc => ?_) (fun hc => ?_) | refine iz_gt (fun hc => ?_) (fun hc => ?_) | refine iz_le (fun hc => ?_) (fun hc => ?_) | refine iz_nu (fun hc => ?_) (fun hc => ?_) | refine iz_nn (fun hc => ?_) (fun hc => ?_)
          | omega
          | (exfalso; omega)
        all_goals exact h0 (show (1 : Int) ≠ 0 by decide) _ _ (by assumption) (by assumption) (rfX.t (rfX.k rfX.s tk2) (fun b j u v => ⟨(by assumption : tkY r F2 _) b j (by omega), hE1 b j (by omega)⟩))
    obtain ⟨f, rfl⟩ : ∃ f : Nat, nn = f + 1 := ⟨nn - 1, by omega⟩
    unfold rgF at hr1
    try simp (disch := omega) only [zLg, zRf, zFq, zEl, zNz, zUf, zUe, zUr, zCe, zSn, gd_0, gd_1, gd_2, gd_3, gd_4, gd_5, gd_6, gd_7, gd_8, gd_9, gd_10, gd_11, gd_12, gd_13, gd_14, gd_15, gd_16, gd_17, gd_18, gd_19, se_0, se_1, se_2, se_3, se_4, se_5, se_6, se_7, se_8, se_9, se_10, se_11, se_12, se_13, se_14, se_15, se_16, se_17, se_18, se_19, e_const, e_load, e_store, e_iinc, e_dup, e_dup2, e_pop, e_iadd, e_isub, e_imul, e_ladd, e_lsub, e_lmul, e_iaddw, e_isubw, e_imulw, e_laddw, e_lsubw, e_lmulw, e_iand, e_ior, e_ishl, e_ishr, e_iushr, e_lcmp, e_imax, e_imin, e_idiv, e_irem, e_ldiv, e_lrem, e_i2l, e_i2b, e_l2i, e_i2c, e_getF, e_getR, e_putF, e_putR, e_putz, e_ald, e_aldR, e_ast, e_astb, e_astz, e_asta, e_len, e_acopy, e_new, e_newa, e_mna, e_this, e_room, e_call0, e_callv0, e_call1, e_callv1, e_inv1, e_invv1, e_call2, e_callv2, e_inv2, e_invv2, e_call3, e_callv3, e_inv3, e_invv3, e_call4, e_callv4, e_inv4, e_invv4, e_call5, e_callv5, e_inv5, e_invv5, e_call6, e_callv6, e_inv6, e_invv6, e_call7, e_callv7, e_inv7, e_invv7, e_call8, e_callv8, e_inv8, e_invv8, e_ret, e_retz, e_retc, e_retb, e_retv, e_skip, e_sco, e_tlen, e_tat, e_iz_eq0, e_iz_eq1, e_iz_ne0, e_iz_ne1, add0, sc_d, sc_t, inI_e, inL_e, up_eq, true_or, or_true, or_false, false_or, and_true, true_and, not_false_eq_true, Int.reduceAdd, Int.reduceSub, Int.reduceMul, Int.reduceNeg]
    refine ic_lt (fun _ => ?_) (fun y => absurd y (by omega))
    try simp (disch := omega) only [zLg, zRf, zFq, zEl, zNz, zUf, zUe, zUr, zCe, zSn, gd_0, gd_1, gd_2, gd_3, gd_4, gd_5, gd_6, gd_7, gd_8, gd_9, gd_10, gd_11, gd_12, gd_13, gd_14, gd_15, gd_16, gd_17, gd_18, gd_19, se_0, se_1, se_2, se_3, se_4, se_5, se_6, se_7, se_8, se_9, se_10, se_11, se_12, se_13, se_14, se_15, se_16, se_17, se_18, se_19, e_const, e_load, e_store, e_iinc, e_dup, e_dup2, e_pop, e_iadd, e_isub, e_imul, e_ladd, e_lsub, e_lmul, e_iaddw, e_isubw, e_imulw, e_laddw, e_lsubw, e_lmulw, e_iand, e_ior, e_ishl, e_ishr, e_iushr, e_lcmp, e_imax, e_imin, e_idiv, e_irem, e_ldiv, e_lrem, e_i2l, e_i2b, e_l2i, e_i2c, e_getF, e_getR, e_putF, e_putR, e_putz, e_ald, e_aldR, e_ast, e_astb, e_astz, e_asta, e_len, e_acopy, e_new, e_newa, e_mna, e_this, e_room, e_call0, e_callv0, e_call1, e_callv1, e_inv1, e_invv1, e_call2, e_callv2, e_inv2, e_invv2, e_call3, e_callv3, e_inv3, e_invv3, e_call4, e_callv4, e_inv4, e_invv4, e_call5, e_callv5, e_inv5, e_invv5, e_call6, e_callv6, e_inv6, e_invv6, e_call7, e_callv7, e_inv7, e_invv7, e_call8, e_callv8, e_inv8, e_invv8, e_ret, e_retz, e_retc, e_retb, e_retv, e_skip, e_sco, e_tlen, e_tat, e_iz_eq0, e_iz_eq1, e_iz_ne0, e_iz_ne1, add0, sc_d, sc_t, inI_e, inL_e, up_eq, true_or, or_true, or_false, false_or, and_true, true_and, not_false_eq_true, Int.reduceAdd, Int.reduceSub, Int.reduceMul, Int.reduceNeg]
    refine sX_needWhole hT n9 ht1 g1 (fun z1 F3 p1 p2 p3 => ?_) (fun z1 F3 p1 p2 p3 => ?_)
    rotate_left
    · rw [if_neg z1] at hr1
      subst hr1
      clear h1 hkk
      repeat' first
        | exact absurd hc (by decide)
        | simp (disch := omega) only [ub_X4_ringsLine_103, ub_X4_ringsLine_49, zLg, zRf, zFq, zEl, zNz, zUf, zUe, zUr, zCe, zSn, gd_0, gd_1, gd_2, gd_3, gd_4, gd_5, gd_6, gd_7, gd_8, gd_9, gd_10, gd_11, gd_12, gd_13, gd_14, gd_15, gd_16, gd_17, gd_18, gd_19, se_0, se_1, se_2, se_3, se_4, se_5, se_6, se_7, se_8, se_9, se_10, se_11, se_12, se_13, se_14, se_15, se_16, se_17, se_18, se_19, e_const, e_load, e_store, e_iinc, e_dup, e_dup2, e_pop, e_iadd, e_isub, e_imul, e_ladd, e_lsub, e_lmul, e_iaddw, e_isubw, e_imulw, e_laddw, e_lsubw, e_lmulw, e_iand, e_ior, e_ishl, e_ishr, e_iushr, e_lcmp, e_imax, e_imin, e_idiv, e_irem, e_ldiv, e_lrem, e_i2l, e_i2b, e_l2i, e_i2c, e_getF, e_getR, e_putF, e_putR, e_putz, e_ald, e_aldR, e_ast, e_astb, e_astz, e_asta, e_len, e_acopy, e_new, e_newa, e_mna, e_this, e_room, e_call0, e_callv0, e_call1, e_callv1, e_inv1, e_invv1, e_call2, e_callv2, e_inv2, e_invv2, e_call3, e_callv3, e_inv3, e_invv3, e_call4, e_callv4, e_inv4, e_invv4, e_call5, e_callv5, e_inv5, e_invv5, e_call6, e_callv6, e_inv6, e_invv6, e_call7, e_callv7, e_inv7, e_invv7, e_call8, e_callv8, e_inv8, e_invv8, e_ret, e_retz, e_retc, e_retb, e_retv, e_skip, e_sco, e_tlen, e_tat, e_iz_eq0, e_iz_eq1, e_iz_ne0, e_iz_ne1, add0, sc_d, sc_t, inI_e, inL_e, up_eq, true_or, or_true, or_false, false_or, and_true, true_and, not_false_eq_true, Int.reduceAdd, Int.reduceSub, Int.reduceMul, Int.reduceNeg]
        | with_reducible first | refine izl_lt (fun hc => ?_) (fun hc => ?_) | refine izl_ge (fun hc => ?_) (fun hc => ?_) | refine izl_eq (fun hc => ?_) (fun hc => ?_) | refine ic_ge (fun hc => ?_) (fun hc => ?_) | refine ic_lt (fun hc => ?_) (fun hc => ?_) | refine ic_ne (fun hc => ?_) (fun hc => ?_) | refine ic_eq (fun hc => ?_) (fun hc => ?_) | refine ic_le (fun hc => ?_) (fun hc => ?_) | refine ic_gt (fun hc => ?_) (fun hc => ?_) | refine iz_eq (fun hc => ?_) (fun hc => ?_) | refine iz_ne (fun hc => ?_) (fun hc => ?_) | refine iz_lt (fun hc => ?_) (fun hc => ?_) | refine iz_ge (fun hc => ?_) (fun hc => ?_) | refine iz_gt (fun hc => ?_) (fun hc => ?_) | refine iz_le (fun hc => ?_) (fun hc => ?_) | refine iz_nu (fun hc => ?_) (fun hc => ?_) | refine iz_nn (fun hc => ?_) (fun hc => ?_)
        | omega
        | (exfalso; omega)
      all_goals exact h0 z1 _ _ p1 p2 (rfX.t (rfX.k rfX.s tk2) (fun b j u v => ⟨p3 b j (by omega), hE1 b j (by omega)⟩))
    rw [if_pos z1] at hr1
    have vb := (fW_z z1).2
    have tk3 := tkX.t tk2 p2
    have e3' := rm_3 p1
    have e5' := rm_5 p1
    have hw3 : ∀ y : Int, 0 ≤ y → y < c + 1 → up E1 (s + 1) c (nmt tp n (tkn tp n j)) (s + 1) y = nmt tp n (rp tp n i y.toNat) := fun y u v => by
      by_cases yc : y = c
      · rw [yc, up_eq, hj]
      · rw [up_ne (by omega)]; exact hw1 y u (by omega)
    have hE3 : ∀ b j' : Int, b ≠ s + 1 → up E1 (s + 1) c (nmt tp n (tkn tp n j)) b j' = E b j' := fun b j' z => (up_ne (by omega)).trans (hE1 b j' z)
    have fr3 : rfX r s F F3 E (up E1 (s + 1) c (nmt tp n (tkn tp n j))) := rfX.t (rfX.k rfX.s tk3) (fun b j u v => ⟨rfl, hE3 b j (by omega)⟩)
    by_cases z2 : kdt tp n (tkn tp n (tkn tp n j)) = 4
    · rw [if_pos z2] at hr1
      have nx : kk [r, nmt tp n (tkn tp n j), c + 1] [] (L, R, F3, up E1 (s + 1) c (nmt tp n (tkn tp n j)), N) c9 s9 := by
        refine hkk f _ _ _ _ _ rfl ⟨c + 1, nmt tp n (tkn tp n j), tkn tp n (tkn tp n j), F3, _, rfl, rfl, rfl, by omega, by omega, by omega, p1, by omega, ?_, hr1, tk3, hw3, hE3⟩
        rw [show (c + 1).toNat = c.toNat + 1 by omega, hj]
        rfl
      clear h1 h0 hkk hr1
      repeat' first
        | exact absurd hc (by decide)
        | simp (disch := omega) only [ub_X4_ringsLine_103, ub_X4_ringsLine_49, zLg, zRf, zFq, zEl, zNz, zUf, zUe, zUr, zCe, zSn, gd_0, gd_1, gd_2, gd_3, gd_4, gd_5, gd_6, gd_7, gd_8, gd_9, gd_10, gd_11, gd_12, gd_13, gd_14, gd_15, gd_16, gd_17, gd_18, gd_19, se_0, se_1, se_2, se_3, se_4, se_5, se_6, se_7, se_8, se_9, se_10, se_11, se_12, se_13, se_14, se_15, se_16, se_17, se_18, se_19, e_const, e_load, e_store, e_iinc, e_dup, e_dup2, e_pop, e_iadd, e_isub, e_imul, e_ladd, e_lsub, e_lmul, e_iaddw, e_isubw, e_imulw, e_laddw, e_lsubw, e_lmulw, e_iand, e_ior, e_ishl, e_ishr, e_iushr, e_lcmp, e_imax, e_imin, e_idiv, e_irem, e_ldiv, e_lrem, e_i2l, e_i2b, e_l2i, e_i2c, e_getF, e_getR, e_putF, e_putR, e_putz, e_ald, e_aldR, e_ast, e_astb, e_astz, e_asta, e_len, e_acopy, e_new, e_newa, e_mna, e_this, e_room, e_call0, e_callv0, e_call1, e_callv1, e_inv1, e_invv1, e_call2, e_callv2, e_inv2, e_invv2, e_call3, e_callv3, e_inv3, e_invv3, e_call4, e_callv4, e_inv4, e_invv4, e_call5, e_callv5, e_inv5, e_invv5, e_call6, e_callv6, e_inv6, e_invv6, e_call7, e_callv7, e_inv7, e_invv7, e_call8, e_callv8, e_inv8, e_invv8, e_ret, e_retz, e_retc, e_retb, e_retv, e_skip, e_sco, e_tlen, e_tat, e_iz_eq0, e_iz_eq1, e_iz_ne0, e_iz_ne1, add0, sc_d, sc_t, inI_e, inL_e, up_eq, true_or, or_true, or_false, false_or, and_true, true_and, not_false_eq_true, Int.reduceAdd, Int.reduceSub, Int.reduceMul, Int.reduceNeg, p3, h10, r5, rl1, e5']
        | with_reducible first | refine izl_lt (fun hc => ?_) (fun hc => ?_) | refine izl_ge (fun hc => ?_) (fun hc => ?_) | refine izl_eq (fun hc => ?_) (fun hc => ?_) | refine ic_ge (fun hc => ?_) (fun hc => ?_) | refine ic_lt (fun hc => ?_) (fun hc => ?_) | refine ic_ne (fun hc => ?_) (fun hc => ?_) | refine ic_eq (fun hc => ?_) (fun hc => ?_) | refine ic_le (fun hc => ?_) (fun hc => ?_) | refine ic_gt (fun hc => ?_) (fun hc => ?_) | refine iz_eq (fun hc => ?_) (fun hc => ?_) | refine iz_ne (fun hc => ?_) (fun hc => ?_) | refine iz_lt (fun hc => ?_) (fun hc => ?_) | refine iz_ge (fun hc => ?_) (fun hc => ?_) | refine iz_gt (fun hc => ?_) (fun hc => ?_) | refine iz_le (fun hc => ?_) (fun hc => ?_) | refine iz_nu (fun hc => ?_) (fun hc => ?_) | refine iz_nn (fun hc => ?_) (fun hc => ?_)
        | omega
        | (exfalso; omega)
      all_goals exact nx
    · rw [if_neg z2] at hr1
      by_cases z3 : c + 1 < 2
      · rw [if_pos z3] at hr1
        subst hr1
        clear h1 hkk
        repeat' first
          | exact absurd hc (by decide)
          | with_reducible refine sX_flaw pr (fun F' a b d => ?_)
          | simp (disch := omega) only [ub_X4_ringsLine_103, ub_X4_ringsLine_49, zLg, zRf, zFq, zEl, zNz, zUf, zUe, zUr, zCe, zSn, gd_0, gd_1, gd_2, gd_3, gd_4, gd_5, gd_6, gd_7, gd_8, gd_9, gd_10, gd_11, gd_12, gd_13, gd_14, gd_15, gd_16, gd_17, gd_18, gd_19, se_0, se_1, se_2, se_3, se_4, se_5, se_6, se_7, se_8, se_9, se_10, se_11, se_12, se_13, se_14, se_15, se_16, se_17, se_18, se_19, e_const, e_load, e_store, e_iinc, e_dup, e_dup2, e_pop, e_iadd, e_isub, e_imul, e_ladd, e_lsub, e_lmul, e_iaddw, e_isubw, e_imulw, e_laddw, e_lsubw, e_lmulw, e_iand, e_ior, e_ishl, e_ishr, e_iushr, e_lcmp, e_imax, e_imin, e_idiv, e_irem, e_ldiv, e_lrem, e_i2l, e_i2b, e_l2i, e_i2c, e_getF, e_getR, e_putF, e_putR, e_putz, e_ald, e_aldR, e_ast, e_astb, e_astz, e_asta, e_len, e_acopy, e_new, e_newa, e_mna, e_this, e_room, e_call0, e_callv0, e_call1, e_callv1, e_inv1, e_invv1, e_call2, e_callv2, e_inv2, e_invv2, e_call3, e_callv3, e_inv3, e_invv3, e_call4, e_callv4, e_inv4, e_invv4, e_call5, e_callv5, e_inv5, e_invv5, e_call6, e_callv6, e_inv6, e_invv6, e_call7, e_callv7, e_inv7, e_invv7, e_call8, e_callv8, e_inv8, e_invv8, e_ret, e_retz, e_retc, e_retb, e_retv, e_skip, e_sco, e_tlen, e_tat, e_iz_eq0, e_iz_eq1, e_iz_ne0, e_iz_ne1, add0, sc_d, sc_t, inI_e, inL_e, up_eq, true_or, or_true, or_false, false_or, and_true, true_and, not_false_eq_true, Int.reduceAdd, Int.reduceSub, Int.reduceMul, Int.reduceNeg, p3, h10, r5, rl1, e5', e3']
          | with_reducible first | refine izl_lt (fun hc => ?_) (fun hc => ?_) | refine izl_ge (fun hc => ?_) (fun hc => ?_) | refine izl_eq (fun hc => ?_) (fun hc => ?_) | refine ic_ge (fun hc => ?_) (fun hc => ?_) | refine ic_lt (fun hc => ?_) (fun hc => ?_) | refine ic_ne (fun hc => ?_) (fun hc => ?_) | refine ic_eq (fun hc => ?_) (fun hc => ?_) | refine ic_le (fun hc => ?_) (fun hc => ?_) | refine ic_gt (fun hc => ?_) (fun hc => ?_) | refine iz_eq (fun hc => ?_) (fun hc => ?_) | refine iz_ne (fun hc => ?_) (fun hc => ?_) | refine iz_lt (fun hc => ?_) (fun hc => ?_) | refine iz_ge (fun hc => ?_) (fun hc => ?_) | refine iz_gt (fun hc => ?_) (fun hc => ?_) | refine iz_le (fun hc => ?_) (fun hc => ?_) | refine iz_nu (fun hc => ?_) (fun hc => ?_) | refine iz_nn (fun hc => ?_) (fun hc => ?_)
          | omega
          | (exfalso; omega)
        all_goals exact h0 (show (1 : Int) ≠ 0 by decide) _ _ (by assumption) (by assumption) (rfX.y fr3 (by assumption))
      · rw [if_neg z3] at hr1
        subst hr1
        have ok := h1 rfl (up F3 s 0 (c + 1)) (up E1 (s + 1) c (nmt tp n (tkn tp n j))) (rdM.fa p1 (fun j a b => up_ne (by omega))) (pxM_rg hP hW hz (by show (2 : Int) ≤ c + 1; omega) (by show c + 1 ≤ 6; omega) up_eq hw3 ((up_ne (by omega)).trans (tk3 _ _ (by omega))) ((up_ne (by omega)).trans ((tk3 _ _ (by omega)).trans (px_9 hP))) (fun b j u v w => (up_ne (by omega)).trans (tk3 _ _ (by omega))) (fun b j u v w => hE3 _ _ w) (fun q => hE3 _ _ (by omega)) (fun q => hE3 _ _ (by omega))) (rfX.f fr3 (by omega))
        clear h1 h0 hkk
        repeat' first
          | exact absurd hc (by decide)
          | simp (disch := omega) only [ub_X4_ringsLine_103, ub_X4_ringsLine_49, zLg, zRf, zFq, zEl, zNz, zUf, zUe, zUr, zCe, zSn, gd_0, gd_1, gd_2, gd_3, gd_4, gd_5, gd_6, gd_7, gd_8, gd_9, gd_10, gd_11, gd_12, gd_13, gd_14, gd_15, gd_16, gd_17, gd_18, gd_19, se_0, se_1, se_2, se_3, se_4, se_5, se_6, se_7, se_8, se_9, se_10, se_11, se_12, se_13, se_14, se_15, se_16, se_17, se_18, se_19, e_const, e_load, e_store, e_iinc, e_dup, e_dup2, e_pop, e_iadd, e_isub, e_imul, e_ladd, e_lsub, e_lmul, e_iaddw, e_isubw, e_imulw, e_laddw, e_lsubw, e_lmulw, e_iand, e_ior, e_ishl, e_ishr, e_iushr, e_lcmp, e_imax, e_imin, e_idiv, e_irem, e_ldiv, e_lrem, e_i2l, e_i2b, e_l2i, e_i2c, e_getF, e_getR, e_putF, e_putR, e_putz, e_ald, e_aldR, e_ast, e_astb, e_astz, e_asta, e_len, e_acopy, e_new, e_newa, e_mna, e_this, e_room, e_call0, e_callv0, e_call1, e_callv1, e_inv1, e_invv1, e_call2, e_callv2, e_inv2, e_invv2, e_call3, e_callv3, e_inv3, e_invv3, e_call4, e_callv4, e_inv4, e_invv4, e_call5, e_callv5, e_inv5, e_invv5, e_call6, e_callv6, e_inv6, e_invv6, e_call7, e_callv7, e_inv7, e_invv7, e_call8, e_callv8, e_inv8, e_invv8, e_ret, e_retz, e_retc, e_retb, e_retv, e_skip, e_sco, e_tlen, e_tat, e_iz_eq0, e_iz_eq1, e_iz_ne0, e_iz_ne1, add0, sc_d, sc_t, inI_e, inL_e, up_eq, true_or, or_true, or_false, false_or, and_true, true_and, not_false_eq_true, Int.reduceAdd, Int.reduceSub, Int.reduceMul, Int.reduceNeg, p3, h10, r5, rl1, e5']
          | with_reducible first | refine izl_lt (fun hc => ?_) (fun hc => ?_) | refine izl_ge (fun hc => ?_) (fun hc => ?_) | refine izl_eq (fun hc => ?_) (fun hc => ?_) | refine ic_ge (fun hc => ?_) (fun hc => ?_) | refine ic_lt (fun hc => ?_) (fun hc => ?_) | refine ic_ne (fun hc => ?_) (fun hc => ?_) | refine ic_eq (fun hc => ?_) (fun hc => ?_) | refine ic_le (fun hc => ?_) (fun hc => ?_) | refine ic_gt (fun hc => ?_) (fun hc => ?_) | refine iz_eq (fun hc => ?_) (fun hc => ?_) | refine iz_ne (fun hc => ?_) (fun hc => ?_) | refine iz_lt (fun hc => ?_) (fun hc => ?_) | refine iz_ge (fun hc => ?_) (fun hc => ?_) | refine iz_gt (fun hc => ?_) (fun hc => ?_) | refine iz_le (fun hc => ?_) (fun hc => ?_) | refine iz_nu (fun hc => ?_) (fun hc => ?_) | refine iz_nn (fun hc => ?_) (fun hc => ?_)
          | omega
          | (exfalso; omega)
        all_goals exact ok
  clear h0 h1
  repeat' first
    | exact absurd hc (by decide)
    | simp (disch := omega) only [t_X4_ringsLine, ue_X4_ringsLine, zLg, zRf, zFq, zEl, zNz, zUf, zUe, zUr, zCe, zSn, gd_0, gd_1, gd_2, gd_3, gd_4, gd_5, gd_6, gd_7, gd_8, gd_9, gd_10, gd_11, gd_12, gd_13, gd_14, gd_15, gd_16, gd_17, gd_18, gd_19, se_0, se_1, se_2, se_3, se_4, se_5, se_6, se_7, se_8, se_9, se_10, se_11, se_12, se_13, se_14, se_15, se_16, se_17, se_18, se_19, e_const, e_load, e_store, e_iinc, e_dup, e_dup2, e_pop, e_iadd, e_isub, e_imul, e_ladd, e_lsub, e_lmul, e_iaddw, e_isubw, e_imulw, e_laddw, e_lsubw, e_lmulw, e_iand, e_ior, e_ishl, e_ishr, e_iushr, e_lcmp, e_imax, e_imin, e_idiv, e_irem, e_ldiv, e_lrem, e_i2l, e_i2b, e_l2i, e_i2c, e_getF, e_getR, e_putF, e_putR, e_putz, e_ald, e_aldR, e_ast, e_astb, e_astz, e_asta, e_len, e_acopy, e_new, e_newa, e_mna, e_this, e_room, e_call0, e_callv0, e_call1, e_callv1, e_inv1, e_invv1, e_call2, e_callv2, e_inv2, e_invv2, e_call3, e_callv3, e_inv3, e_invv3, e_call4, e_callv4, e_inv4, e_invv4, e_call5, e_callv5, e_inv5, e_invv5, e_call6, e_callv6, e_inv6, e_invv6, e_call7, e_callv7, e_inv7, e_invv7, e_call8, e_callv8, e_inv8, e_invv8, e_ret, e_retz, e_retc, e_retb, e_retv, e_skip, e_sco, e_tlen, e_tat, e_iz_eq0, e_iz_eq1, e_iz_ne0, e_iz_ne1, add0, sc_d, sc_t, inI_e, inL_e, up_eq, true_or, or_true, or_false, false_or, and_true, true_and, not_false_eq_true, Int.reduceAdd, Int.reduceSub, Int.reduceMul, Int.reduceNeg, h10, f0]
    | with_reducible first | refine izl_lt (fun hc => ?_) (fun hc => ?_) | refine izl_ge (fun hc => ?_) (fun hc => ?_) | refine izl_eq (fun hc => ?_) (fun hc => ?_) | refine ic_ge (fun hc => ?_) (fun hc => ?_) | refine ic_lt (fun hc => ?_) (fun hc => ?_) | refine ic_ne (fun hc => ?_) (fun hc => ?_) | refine ic_eq (fun hc => ?_) (fun hc => ?_) | refine ic_le (fun hc => ?_) (fun hc => ?_) | refine ic_gt (fun hc => ?_) (fun hc => ?_) | refine iz_eq (fun hc => ?_) (fun hc => ?_) | refine iz_ne (fun hc => ?_) (fun hc => ?_) | refine iz_lt (fun hc => ?_) (fun hc => ?_) | refine iz_ge (fun hc => ?_) (fun hc => ?_) | refine iz_gt (fun hc => ?_) (fun hc => ?_) | refine iz_le (fun hc => ?_) (fun hc => ?_) | refine iz_nu (fun hc => ?_) (fun hc => ?_) | refine iz_nn (fun hc => ?_) (fun hc => ?_)
    | omega
    | (exfalso; omega)
  all_goals exact key
end RINGX

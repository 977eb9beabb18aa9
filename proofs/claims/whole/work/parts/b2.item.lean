/-! ===== what lines are made of; the class's reader, item by item ===== -/
theorem izl_ne {kt kf : xK} {l r : List Int} {h : xH} {c n : Nat} {x y : Int} (h1 : x ≠ y → kt l r h c n) (h2 : x = y → kf l r h c n) : x_iz (fun x => x ≠ 0) kt kf l (lCmp x y :: r) h c n := ⟨fun z => h1 (fun w => z ((lc_eq x y).mpr w)), fun z => h2 (by by_cases w : lCmp x y = 0; exact (lc_eq x y).mp w; exact absurd w z)⟩
abbrev nam (tp : Int → Int) (n i : Int) : Prop := kdt tp n i = 1 ∧ wdt tp n i ≠ wcd 0 ∧ wdt tp n i ≠ wcd 1 ∧ wdt tp n i ≠ wcd 2 ∧ wdt tp n i ≠ wcd 3 ∧ wdt tp n i ≠ wcd 4 ∧ wdt tp n i ≠ wcd 5 ∧ wdt tp n i ≠ wcd 6 ∧ wdt tp n i ≠ wcd 7 ∧ wdt tp n i ≠ wcd 8
def fWd (tp : Int → Int) (n s i : Int) : Int := if kdt tp n i = 1 ∧ wdt tp n i = wcd s then 0 else 1
def fW (tp : Int → Int) (n lo hi i : Int) : Int := if kdt tp n i = 2 then (if lo ≤ nmt tp n i ∧ nmt tp n i ≤ hi then 0 else 4) else 1
def fCm (tp : Int → Int) (n i : Int) : Int := if kdt tp n i = 4 then 0 else 1
def fdF (nm : Int → Int) (w : Int) : Nat → Int
  | 0 => -1
  | k + 1 => if fdF nm w k ≠ -1 then fdF nm w k else if nm k = w then k else -1
def fdn (nm : Int → Int) (k w : Int) : Int := fdF nm w k.toNat
def fNw (tp : Int → Int) (n : Int) (nm : Int → Int) (k i : Int) : Int := if nam tp n i then (if fdn nm k (wdt tp n i) = -1 then 0 else 3) else 1
def fGd (tp : Int → Int) (n : Int) (nm go : Int → Int) (k i : Int) : Int := if nam tp n i then (if fdn nm k (wdt tp n i) = -1 ∨ go (fdn nm k (wdt tp n i)) = -1 then 2 else 0) else 1
def fBg (rg many most i : Int) : Int := if most ≤ many then 5 else if rg = 0 then 6 else 0
theorem fdF_s {nm : Int → Int} {w : Int} {k : Nat} : fdF nm w (k + 1) = if fdF nm w k ≠ -1 then fdF nm w k else if nm k = w then (k : Int) else -1 := rfl
theorem fdF_up {nm : Int → Int} {w : Int} {j : Nat} (h : fdF nm w j ≠ -1) : ∀ d : Nat, fdF nm w (j + d) = fdF nm w j := by
  intro d
  induction d with
  | zero => rfl
  | succ d ih => rw [← Nat.add_assoc, fdF_s, if_pos (by rw [ih]; exact h), ih]
theorem fdF_b {nm : Int → Int} {w : Int} : ∀ k : Nat, fdF nm w k = -1 ∨ (0 ≤ fdF nm w k ∧ fdF nm w k < k ∧ nm (fdF nm w k) = w) := by
  intro k
  induction k with
  | zero => exact Or.inl rfl
  | succ k ih =>
    rw [fdF_s]
    by_cases c1 : fdF nm w k ≠ -1
    · rw [if_pos c1]
      rcases ih with h | h
      · exact absurd h c1
      · exact Or.inr ⟨h.1, by omega, h.2.2⟩
    · rw [if_neg c1]
      by_cases c2 : nm k = w
      · rw [if_pos c2]
        exact Or.inr ⟨by omega, by omega, c2⟩
      · rw [if_neg c2]
        exact Or.inl rfl
theorem fdF_eq {nm nm' : Int → Int} {w : Int} : ∀ k : Nat, (∀ q : Int, 0 ≤ q → q < k → nm q = nm' q) → fdF nm w k = fdF nm' w k := by
  intro k
  induction k with
  | zero => exact fun _ => rfl
  | succ k ih =>
    intro h
    rw [fdF_s, fdF_s, ih (fun q a b => h q a (by omega)), h k (by omega) (by omega)]
theorem fdn_b {nm : Int → Int} {k w : Int} (h : 0 ≤ k) : fdn nm k w = -1 ∨ (0 ≤ fdn nm k w ∧ fdn nm k w < k ∧ nm (fdn nm k w) = w) := by
  have := fdF_b (nm := nm) (w := w) k.toNat
  unfold fdn
  rw [Int.toNat_of_nonneg h] at this
  exact this
theorem fdn_eq {nm nm' : Int → Int} {k w : Int} (h : ∀ q : Int, 0 ≤ q → q < k → nm q = nm' q) : fdn nm k w = fdn nm' k w := by
  unfold fdn
  exact fdF_eq _ (fun q a b => h q a (by omega))
theorem fdn_s {nm : Int → Int} {k w : Int} (h : 0 ≤ k) : fdn nm (k + 1) w = if fdn nm k w ≠ -1 then fdn nm k w else if nm k = w then k else -1 := by
  unfold fdn
  rw [show (k + 1).toNat = k.toNat + 1 by omega, fdF_s, Int.toNat_of_nonneg h]
/-- the order's own name can't be its good's -/
theorem fGd_own {tp : Int → Int} {n : Int} {nm go nm' go' : Int → Int} {k i : Int} (h : 0 ≤ k) (hn : ∀ q : Int, 0 ≤ q → q < k → nm' q = nm q) (hg : ∀ q : Int, 0 ≤ q → q < k → go' q = go q) (hk : go' k = -1) : fGd tp n nm' go' (k + 1) i = fGd tp n nm go k i ∧ (fGd tp n nm go k i = 0 → fdn nm' (k + 1) (wdt tp n i) = fdn nm k (wdt tp n i) ∧ go' (fdn nm k (wdt tp n i)) = go (fdn nm k (wdt tp n i)) ∧ go (fdn nm k (wdt tp n i)) ≠ -1 ∧ nam tp n i) := by
  unfold fGd
  by_cases c : nam tp n i
  · have e := fdn_s (nm := nm') (w := wdt tp n i) h
    rw [fdn_eq hn] at e
    have b := fdn_b (nm := nm) (w := wdt tp n i) h
    rw [if_pos c, if_pos c]
    by_cases c1 : fdn nm k (wdt tp n i) = -1
    · rw [if_neg (fun z => z c1)] at e
      rw [if_pos (Or.inl c1 : fdn nm k (wdt tp n i) = -1 ∨ go (fdn nm k (wdt tp n i)) = -1)]
      refine ⟨?_, fun z => absurd z (by decide)⟩
      by_cases c2 : nm' k = wdt tp n i
      · rw [if_pos c2] at e
        rw [e, if_pos (Or.inr hk)]
      · rw [if_neg c2] at e
        rw [e]
        exact if_pos (Or.inl rfl)
    · rw [if_pos c1] at e
      rw [e, hg _ (by omega) (by omega)]
      refine ⟨rfl, fun z => ⟨rfl, rfl, ?_, c⟩⟩
      intro z2
      rw [if_pos (Or.inr z2)] at z
      exact absurd z (by decide)
  · rw [if_neg c, if_neg c]
    exact ⟨rfl, fun z => absurd z (by decide)⟩
/-- a line: tokens of its own sort one after the other; the first that fails is the fault -/
def lin (tp : Int → Int) (n : Int) : List (Int → Int) → Int → Int × Int
  | [], i => (0, i)
  | p :: l, i => if p i = 0 then lin tp n l (tkn tp n i) else (p i, i)
theorem lin_n {tp : Int → Int} {n i : Int} : lin tp n [] i = (0, i) := rfl
theorem lin_0 {tp : Int → Int} {n i : Int} {p : Int → Int} {l : List (Int → Int)} (h : p i = 0) : lin tp n (p :: l) i = lin tp n l (tkn tp n i) := if_pos h
theorem lin_1 {tp : Int → Int} {n i : Int} {p : Int → Int} {l : List (Int → Int)} (h : p i ≠ 0) : lin tp n (p :: l) i = (p i, i) := if_neg h
theorem lin_z {tp : Int → Int} {n i : Int} {p : Int → Int} {l : List (Int → Int)} (h : (lin tp n (p :: l) i).1 = 0) : p i = 0 ∧ (lin tp n l (tkn tp n i)).1 = 0 := by
  by_cases c : p i = 0
  · rw [lin_0 c] at h; exact ⟨c, h⟩
  · rw [lin_1 c] at h; exact absurd h c
theorem fWd_z {tp : Int → Int} {n s i : Int} (h : fWd tp n s i = 0) : kdt tp n i = 1 ∧ wdt tp n i = wcd s := by
  unfold fWd at h
  by_cases c : kdt tp n i = 1 ∧ wdt tp n i = wcd s
  · exact c
  · rw [if_neg c] at h; omega
theorem fW_z {tp : Int → Int} {n lo hi i : Int} (h : fW tp n lo hi i = 0) : kdt tp n i = 2 ∧ lo ≤ nmt tp n i ∧ nmt tp n i ≤ hi := by
  unfold fW at h
  by_cases c : kdt tp n i = 2
  · rw [if_pos c] at h
    by_cases d : lo ≤ nmt tp n i ∧ nmt tp n i ≤ hi
    · exact ⟨c, d⟩
    · rw [if_neg d] at h; omega
  · rw [if_neg c] at h; omega
theorem fCm_z {tp : Int → Int} {n i : Int} (h : fCm tp n i = 0) : kdt tp n i = 4 := by
  unfold fCm at h
  by_cases c : kdt tp n i = 4
  · exact c
  · rw [if_neg c] at h; omega
theorem fNw_z {tp nm : Int → Int} {n k i : Int} (h : fNw tp n nm k i = 0) : nam tp n i ∧ fdn nm k (wdt tp n i) = -1 := by
  unfold fNw at h
  by_cases c : nam tp n i
  · rw [if_pos c] at h
    by_cases d : fdn nm k (wdt tp n i) = -1
    · exact ⟨c, d⟩
    · rw [if_neg d] at h; omega
  · rw [if_neg c] at h; omega
theorem fGd_z {tp nm go : Int → Int} {n k i : Int} (h : fGd tp n nm go k i = 0) : nam tp n i ∧ fdn nm k (wdt tp n i) ≠ -1 ∧ go (fdn nm k (wdt tp n i)) ≠ -1 := by
  unfold fGd at h
  by_cases c : nam tp n i
  · rw [if_pos c] at h
    by_cases d : fdn nm k (wdt tp n i) = -1 ∨ go (fdn nm k (wdt tp n i)) = -1
    · rw [if_pos d] at h; omega
    · exact ⟨c, fun z => d (Or.inl z), fun z => d (Or.inr z)⟩
  · rw [if_neg c] at h; omega
theorem fBg_z {rg many most i : Int} (h : fBg rg many most i = 0) : many < most ∧ rg ≠ 0 := by
  unfold fBg at h
  by_cases c : most ≤ many
  · rw [if_pos c] at h; omega
  · rw [if_neg c] at h
    by_cases d : rg = 0
    · rw [if_pos d] at h; omega
    · exact ⟨by omega, d⟩
theorem nam_k {tp : Int → Int} {n i : Int} (h : nam tp n i) : kdt tp n i = 1 := h.1
/-- what a token's reading leaves -/
def tkX (r : Int) (F F' : Int → Int → Int) : Prop := ∀ b j : Int, (b ≠ r ∨ j = 1 ∨ j = 2 ∨ 9 ≤ j) → F' b j = F b j
def tkY (r : Int) (F F' : Int → Int → Int) : Prop := ∀ b j : Int, (b ≠ r ∨ j = 1 ∨ j = 2 ∨ 10 ≤ j) → F' b j = F b j
theorem tkX.ty {r : Int} {F F' F'' : Int → Int → Int} (h : tkX r F F') (h' : tkY r F' F'') : tkY r F F'' := fun b j z => (h' b j z).trans (h b j (by omega))
theorem tkX.s {r : Int} {F : Int → Int → Int} : tkX r F F := fun _ _ _ => rfl
theorem tkX.t {r : Int} {F F' F'' : Int → Int → Int} (h : tkX r F F') (h' : tkX r F' F'') : tkX r F F'' := fun b j z => (h' b j z).trans (h b j z)
theorem tkX.u {r : Int} {F F' : Int → Int → Int} {j v : Int} (h : tkX r F F') (hj : j = 0 ∨ (3 ≤ j ∧ j < 9)) : tkX r F (up F' r j v) := fun b i z => (up_ne (by omega)).trans (h b i z)
section ITEMX
variable {L : Int → Int} {R F F' E E' : Int → Int → Int} {N : Nat} {Q : xQ} {r q n i j s p a c k v lo hi ro x : Int} {C : Cy} {tp nm go : Int → Int} {c9 s9 : Nat}
theorem sX_flaw (pr : 0 ≤ r) (hQ : ∀ F' : Int → Int → Int, F' r 9 = v → F' r 0 = x → tkY r F F' → Q 0 (L, R, F', E, N)) : T_X4_flaw [r, v, x] (L, R, F, E, N) Q := by
  simp (disch := omega) only [ue_X4_flaw, t_X4_flaw, zLg, zRf, zFq, zEl, zNz, zUf, zUe, zUr, zCe, zSn, gd_0, gd_1, gd_2, gd_3, gd_4, gd_5, gd_6, gd_7, gd_8, gd_9, gd_10, gd_11, gd_12, gd_13, gd_14, gd_15, gd_16, gd_17, gd_18, gd_19, se_0, se_1, se_2, se_3, se_4, se_5, se_6, se_7, se_8, se_9, se_10, se_11, se_12, se_13, se_14, se_15, se_16, se_17, se_18, se_19, e_const, e_load, e_store, e_iinc, e_dup, e_dup2, e_pop, e_iadd, e_isub, e_imul, e_ladd, e_lsub, e_lmul, e_iaddw, e_isubw, e_imulw, e_laddw, e_lsubw, e_lmulw, e_iand, e_ior, e_ishl, e_ishr, e_iushr, e_lcmp, e_imax, e_imin, e_idiv, e_irem, e_ldiv, e_lrem, e_i2l, e_i2b, e_l2i, e_i2c, e_getF, e_getR, e_putF, e_putR, e_putz, e_ald, e_aldR, e_ast, e_astb, e_astz, e_asta, e_len, e_acopy, e_new, e_newa, e_mna, e_this, e_room, e_call0, e_callv0, e_call1, e_callv1, e_inv1, e_invv1, e_call2, e_callv2, e_inv2, e_invv2, e_call3, e_callv3, e_inv3, e_invv3, e_call4, e_callv4, e_inv4, e_invv4, e_call5, e_callv5, e_inv5, e_invv5, e_call6, e_callv6, e_inv6, e_invv6, e_call7, e_callv7, e_inv7, e_invv7, e_call8, e_callv8, e_inv8, e_invv8, e_ret, e_retz, e_retc, e_retb, e_retv, e_skip, e_sco, e_tlen, e_tat, e_iz_eq0, e_iz_eq1, e_iz_ne0, e_iz_ne1, add0, sc_d, sc_t, inI_e, inL_e, up_eq, true_or, or_true, or_false, false_or, and_true, true_and, not_false_eq_true, Int.reduceAdd, Int.reduceSub, Int.reduceMul, Int.reduceNeg]
  exact hQ _ (by rw [up_ne (by omega), up_eq]) up_eq (fun b j z => by rw [up_ne (by omega), up_ne (by omega)])
theorem sX_go (hT : rdT r q L R) (n9 : n ≤ 900) (ht : ∀ i : Int, 0 ≤ i → i < n → E q i = tp i) (hM : rdM r tp n i F) (hk : kdt tp n i ≠ 0) (hQ : ∀ F' : Int → Int → Int, rdM r tp n (tkn tp n i) F' → (∀ b j : Int, (b ≠ r ∨ j < 3 ∨ 7 < j) → F' b j = F b j) → Q 0 (L, R, F', E, N)) : T_X4_step [r] (L, R, F, E, N) Q := by
  have il := kdt_lt hk
  have nb := nxt_b (tp := tp) il
  have ib := rm_b hM
  exact sX_step hT n9 ht (rm_2 hM) (rm_4 hM) (by omega) (by omega) hQ
theorem tkX.o {r : Int} {F F' : Int → Int → Int} (h : ∀ b j : Int, (b ≠ r ∨ j < 3 ∨ 7 < j) → F' b j = F b j) : tkX r F F' := fun b j z => h b j (by omega)
theorem sX_isWord (hT : rdT r q L R) (n9 : n ≤ 900) (ht : ∀ i : Int, 0 ≤ i → i < n → E q i = tp i) (hM : rdM r tp n i F) (s0 : 0 ≤ s) (s1 : s < 24) (h1 : kdt tp n i = 1 ∧ wdt tp n i = wcd s → Q 1 (L, R, F, E, N)) (h0 : ¬ (kdt tp n i = 1 ∧ wdt tp n i = wcd s) → Q 0 (L, R, F, E, N)) : T_X4_isWord [r, s] (L, R, F, E, N) Q := by
  have pr := rd_p hT
  have r1 := rd_1 hT
  have pq := rd_q hT
  have lq := rd_lq hT
  have e2 := rm_2 hM
  have e3 := rm_3 hM
  have e4 := rm_4 hM
  have e5 := rm_5 hM
  have ib := rm_b hM
  by_cases k1 : kdt tp n i = 1
  · obtain ⟨w8, wl1, w0, w9⟩ := wd_b k1
    have il := (kdt_1 k1).1
    have nb := nxt_b (tp := tp) il
    have tb := tx_b s0 s1
    have inj : wdt tp n i = wcd s → (nxt tp n i - i).toNat = (tx s).length ∧ ∀ q : Nat, q < (nxt tp n i - i).toNat → tp (i + q) = (tx s).getD q 0 := fun z => by
      unfold wdt wcd at z
      exact wl_inj _ _ wl1 tb.2 z
    by_cases kl : nxt tp n i - i = (tx s).length
    · have key : L_X4_isWord_28 Q [r, s, 0] [] (L, R, F, E, N) 0 0 := by
        unfold L_X4_isWord_28
        refine lpw (fun nn lo st h c d => ∃ z : Int, lo = [r, s, z] ∧ st = [] ∧ h = (L, R, F, E, N) ∧ 0 ≤ z ∧ z ≤ (tx s).length ∧ (nn : Int) = (tx s).length - z ∧ ∀ q : Nat, (q : Int) < z → tp (i + q) = (tx s).getD q 0) ?_ (n := (tx s).length) ⟨0, rfl, rfl, rfl, by omega, by omega, by omega, fun q z => by omega⟩
        rintro nn kk hkk lo st h c9 s9 ⟨z, rfl, rfl, rfl, z0, z1, hn1, hz⟩
        by_cases ze : z < (tx s).length
        · have ez : E q (i + z) = tp (i + z) := ht _ (by omega) (by omega)
          have zc := hz
          have go1 : tp (i + z) = (tx s).getD z.toNat 0 → kk [r, s, z + 1] [] (L, R, F, E, N) c9 s9 := fun y => by
            refine hkk (nn - 1) _ _ _ _ _ (by omega) ⟨z + 1, rfl, rfl, rfl, by omega, by omega, by omega, fun q u => ?_⟩
            by_cases w : (q : Int) = z
            · have : q = z.toNat := by omega
              subst this
              rw [Int.toNat_of_nonneg z0]
              exact y
            · exact hz q (by omega)
          have no1 : tp (i + z) ≠ (tx s).getD z.toNat 0 → Q 0 (L, R, F, E, N) := fun y => h0 (fun w => y (by
            have := (inj w.2).2 z.toNat (by omega)
            rw [Int.toNat_of_nonneg z0] at this
            exact this))
          clear hkk h0 h1 inj hz zc wl1 tb ht
          repeat' first
            | exact absurd hc (by decide)
            | with_reducible refine sT_len s0 s1 ?_
            | with_reducible refine sT_char s0 s1 ?_ ?_ ?_
            | simp (disch := omega) only [ub_X4_isWord_76, zLg, zRf, zFq, zEl, zNz, zUf, zUe, zUr, zCe, zSn, gd_0, gd_1, gd_2, gd_3, gd_4, gd_5, gd_6, gd_7, gd_8, gd_9, gd_10, gd_11, gd_12, gd_13, gd_14, gd_15, gd_16, gd_17, gd_18, gd_19, se_0, se_1, se_2, se_3, se_4, se_5, se_6, se_7, se_8, se_9, se_10, se_11, se_12, se_13, se_14, se_15, se_16, se_17, se_18, se_19, e_const, e_load, e_store, e_iinc, e_dup, e_dup2, e_pop, e_iadd, e_isub, e_imul, e_ladd, e_lsub, e_lmul, e_iaddw, e_isubw, e_imulw, e_laddw, e_lsubw, e_lmulw, e_iand, e_ior, e_ishl, e_ishr, e_iushr, e_lcmp, e_imax, e_imin, e_idiv, e_irem, e_ldiv, e_lrem, e_i2l, e_i2b, e_l2i, e_i2c, e_getF, e_getR, e_putF, e_putR, e_putz, e_ald, e_aldR, e_ast, e_astb, e_astz, e_asta, e_len, e_acopy, e_new, e_newa, e_mna, e_this, e_room, e_call0, e_callv0, e_call1, e_callv1, e_inv1, e_invv1, e_call2, e_callv2, e_inv2, e_invv2, e_call3, e_callv3, e_inv3, e_invv3, e_call4, e_callv4, e_inv4, e_invv4, e_call5, e_callv5, e_inv5, e_invv5, e_call6, e_callv6, e_inv6, e_invv6, e_call7, e_callv7, e_inv7, e_invv7, e_call8, e_callv8, e_inv8, e_invv8, e_ret, e_retz, e_retc, e_retb, e_retv, e_skip, e_sco, e_tlen, e_tat, e_iz_eq0, e_iz_eq1, e_iz_ne0, e_iz_ne1, add0, sc_d, sc_t, inI_e, inL_e, up_eq, true_or, or_true, or_false, false_or, and_true, true_and, not_false_eq_true, Int.reduceAdd, Int.reduceSub, Int.reduceMul, Int.reduceNeg, e2, e3, r1, lq, ez]
            | with_reducible first | refine izl_lt (fun hc => ?_) (fun hc => ?_) | refine izl_ge (fun hc => ?_) (fun hc => ?_) | refine izl_eq (fun hc => ?_) (fun hc => ?_) | refine ic_ge (fun hc => ?_) (fun hc => ?_) | refine ic_lt (fun hc => ?_) (fun hc => ?_) | refine ic_ne (fun hc => ?_) (fun hc => ?_) | refine ic_eq (fun hc => ?_) (fun hc => ?_) | refine ic_le (fun hc => ?_) (fun hc => ?_) | refine ic_gt (fun hc => ?_) (fun hc => ?_) | refine iz_eq (fun hc => ?_) (fun hc => ?_) | refine iz_ne (fun hc => ?_) (fun hc => ?_) | refine iz_lt (fun hc => ?_) (fun hc => ?_) | refine iz_ge (fun hc => ?_) (fun hc => ?_) | refine iz_gt (fun hc => ?_) (fun hc => ?_) | refine iz_le (fun hc => ?_) (fun hc => ?_) | refine iz_nu (fun hc => ?_) (fun hc => ?_) | refine iz_nn (fun hc => ?_) (fun hc => ?_)
            | omega
            | (exfalso; omega)
          all_goals first
            | exact go1 (by assumption)
            | exact no1 (by assumption)
        · have zl : z = (tx s).length := by omega
          have ok : Q 1 (L, R, F, E, N) := h1 ⟨k1, by
            unfold wdt wcd
            rw [show (nxt tp n i - i).toNat = (tx s).length by omega]
            exact wl_eq _ (fun q u => hz q (by omega))⟩
          clear hkk h0 h1 inj hz wl1 tb ht
          repeat' first
            | exact absurd hc (by decide)
            | with_reducible refine sT_len s0 s1 ?_
            | simp (disch := omega) only [ub_X4_isWord_76, zLg, zRf, zFq, zEl, zNz, zUf, zUe, zUr, zCe, zSn, gd_0, gd_1, gd_2, gd_3, gd_4, gd_5, gd_6, gd_7, gd_8, gd_9, gd_10, gd_11, gd_12, gd_13, gd_14, gd_15, gd_16, gd_17, gd_18, gd_19, se_0, se_1, se_2, se_3, se_4, se_5, se_6, se_7, se_8, se_9, se_10, se_11, se_12, se_13, se_14, se_15, se_16, se_17, se_18, se_19, e_const, e_load, e_store, e_iinc, e_dup, e_dup2, e_pop, e_iadd, e_isub, e_imul, e_ladd, e_lsub, e_lmul, e_iaddw, e_isubw, e_imulw, e_laddw, e_lsubw, e_lmulw, e_iand, e_ior, e_ishl, e_ishr, e_iushr, e_lcmp, e_imax, e_imin, e_idiv, e_irem, e_ldiv, e_lrem, e_i2l, e_i2b, e_l2i, e_i2c, e_getF, e_getR, e_putF, e_putR, e_putz, e_ald, e_aldR, e_ast, e_astb, e_astz, e_asta, e_len, e_acopy, e_new, e_newa, e_mna, e_this, e_room, e_call0, e_callv0, e_call1, e_callv1, e_inv1, e_invv1, e_call2, e_callv2, e_inv2, e_invv2, e_call3, e_callv3, e_inv3, e_invv3, e_call4, e_callv4, e_inv4, e_invv4, e_call5, e_callv5, e_inv5, e_invv5, e_call6, e_callv6, e_inv6, e_invv6, e_call7, e_callv7, e_inv7, e_invv7, e_call8, e_callv8, e_inv8, e_invv8, e_ret, e_retz, e_retc, e_retb, e_retv, e_skip, e_sco, e_tlen, e_tat, e_iz_eq0, e_iz_eq1, e_iz_ne0, e_iz_ne1, add0, sc_d, sc_t, inI_e, inL_e, up_eq, true_or, or_true, or_false, false_or, and_true, true_and, not_false_eq_true, Int.reduceAdd, Int.reduceSub, Int.reduceMul, Int.reduceNeg]
            | with_reducible first | refine izl_lt (fun hc => ?_) (fun hc => ?_) | refine izl_ge (fun hc => ?_) (fun hc => ?_) | refine izl_eq (fun hc => ?_) (fun hc => ?_) | refine ic_ge (fun hc => ?_) (fun hc => ?_) | refine ic_lt (fun hc => ?_) (fun hc => ?_) | refine ic_ne (fun hc => ?_) (fun hc => ?_) | refine ic_eq (fun hc => ?_) (fun hc => ?_) | refine ic_le (fun hc => ?_) (fun hc => ?_) | refine ic_gt (fun hc => ?_) (fun hc => ?_) | refine iz_eq (fun hc => ?_) (fun hc => ?_) | refine iz_ne (fun hc => ?_) (fun hc => ?_) | refine iz_lt (fun hc => ?_) (fun hc => ?_) | refine iz_ge (fun hc => ?_) (fun hc => ?_) | refine iz_gt (fun hc => ?_) (fun hc => ?_) | refine iz_le (fun hc => ?_) (fun hc => ?_) | refine iz_nu (fun hc => ?_) (fun hc => ?_) | refine iz_nn (fun hc => ?_) (fun hc => ?_)
            | omega
            | (exfalso; omega)
          all_goals exact ok
      clear h0 h1 inj wl1 tb ht
      repeat' first
        | exact absurd hc (by decide)
        | with_reducible refine sT_len s0 s1 ?_
        | simp (disch := omega) only [t_X4_isWord, ue_X4_isWord, ub_X4_isWord_24, zLg, zRf, zFq, zEl, zNz, zUf, zUe, zUr, zCe, zSn, gd_0, gd_1, gd_2, gd_3, gd_4, gd_5, gd_6, gd_7, gd_8, gd_9, gd_10, gd_11, gd_12, gd_13, gd_14, gd_15, gd_16, gd_17, gd_18, gd_19, se_0, se_1, se_2, se_3, se_4, se_5, se_6, se_7, se_8, se_9, se_10, se_11, se_12, se_13, se_14, se_15, se_16, se_17, se_18, se_19, e_const, e_load, e_store, e_iinc, e_dup, e_dup2, e_pop, e_iadd, e_isub, e_imul, e_ladd, e_lsub, e_lmul, e_iaddw, e_isubw, e_imulw, e_laddw, e_lsubw, e_lmulw, e_iand, e_ior, e_ishl, e_ishr, e_iushr, e_lcmp, e_imax, e_imin, e_idiv, e_irem, e_ldiv, e_lrem, e_i2l, e_i2b, e_l2i, e_i2c, e_getF, e_getR, e_putF, e_putR, e_putz, e_ald, e_aldR, e_ast, e_astb, e_astz, e_asta, e_len, e_acopy, e_new, e_newa, e_mna, e_this, e_room, e_call0, e_callv0, e_call1, e_callv1, e_inv1, e_invv1, e_call2, e_callv2, e_inv2, e_invv2, e_call3, e_callv3, e_inv3, e_invv3, e_call4, e_callv4, e_inv4, e_invv4, e_call5, e_callv5, e_inv5, e_invv5, e_call6, e_callv6, e_inv6, e_invv6, e_call7, e_callv7, e_inv7, e_invv7, e_call8, e_callv8, e_inv8, e_invv8, e_ret, e_retz, e_retc, e_retb, e_retv, e_skip, e_sco, e_tlen, e_tat, e_iz_eq0, e_iz_eq1, e_iz_ne0, e_iz_ne1, add0, sc_d, sc_t, inI_e, inL_e, up_eq, true_or, or_true, or_false, false_or, and_true, true_and, not_false_eq_true, Int.reduceAdd, Int.reduceSub, Int.reduceMul, Int.reduceNeg, e3, e4, e5]
        | with_reducible first | refine izl_lt (fun hc => ?_) (fun hc => ?_) | refine izl_ge (fun hc => ?_) (fun hc => ?_) | refine izl_eq (fun hc => ?_) (fun hc => ?_) | refine ic_ge (fun hc => ?_) (fun hc => ?_) | refine ic_lt (fun hc => ?_) (fun hc => ?_) | refine ic_ne (fun hc => ?_) (fun hc => ?_) | refine ic_eq (fun hc => ?_) (fun hc => ?_) | refine ic_le (fun hc => ?_) (fun hc => ?_) | refine ic_gt (fun hc => ?_) (fun hc => ?_) | refine iz_eq (fun hc => ?_) (fun hc => ?_) | refine iz_ne (fun hc => ?_) (fun hc => ?_) | refine iz_lt (fun hc => ?_) (fun hc => ?_) | refine iz_ge (fun hc => ?_) (fun hc => ?_) | refine iz_gt (fun hc => ?_) (fun hc => ?_) | refine iz_le (fun hc => ?_) (fun hc => ?_) | refine iz_nu (fun hc => ?_) (fun hc => ?_) | refine iz_nn (fun hc => ?_) (fun hc => ?_)
        | omega
        | (exfalso; omega)
      all_goals exact key
    · have no : Q 0 (L, R, F, E, N) := h0 (fun w => by have := (inj w.2).1; omega)
      clear h0 h1 inj wl1 tb ht
      repeat' first
        | exact absurd hc (by decide)
        | with_reducible refine sT_len s0 s1 ?_
        | simp (disch := omega) only [t_X4_isWord, ue_X4_isWord, ub_X4_isWord_24, zLg, zRf, zFq, zEl, zNz, zUf, zUe, zUr, zCe, zSn, gd_0, gd_1, gd_2, gd_3, gd_4, gd_5, gd_6, gd_7, gd_8, gd_9, gd_10, gd_11, gd_12, gd_13, gd_14, gd_15, gd_16, gd_17, gd_18, gd_19, se_0, se_1, se_2, se_3, se_4, se_5, se_6, se_7, se_8, se_9, se_10, se_11, se_12, se_13, se_14, se_15, se_16, se_17, se_18, se_19, e_const, e_load, e_store, e_iinc, e_dup, e_dup2, e_pop, e_iadd, e_isub, e_imul, e_ladd, e_lsub, e_lmul, e_iaddw, e_isubw, e_imulw, e_laddw, e_lsubw, e_lmulw, e_iand, e_ior, e_ishl, e_ishr, e_iushr, e_lcmp, e_imax, e_imin, e_idiv, e_irem, e_ldiv, e_lrem, e_i2l, e_i2b, e_l2i, e_i2c, e_getF, e_getR, e_putF, e_putR, e_putz, e_ald, e_aldR, e_ast, e_astb, e_astz, e_asta, e_len, e_acopy, e_new, e_newa, e_mna, e_this, e_room, e_call0, e_callv0, e_call1, e_callv1, e_inv1, e_invv1, e_call2, e_callv2, e_inv2, e_invv2, e_call3, e_callv3, e_inv3, e_invv3, e_call4, e_callv4, e_inv4, e_invv4, e_call5, e_callv5, e_inv5, e_invv5, e_call6, e_callv6, e_inv6, e_invv6, e_call7, e_callv7, e_inv7, e_invv7, e_call8, e_callv8, e_inv8, e_invv8, e_ret, e_retz, e_retc, e_retb, e_retv, e_skip, e_sco, e_tlen, e_tat, e_iz_eq0, e_iz_eq1, e_iz_ne0, e_iz_ne1, add0, sc_d, sc_t, inI_e, inL_e, up_eq, true_or, or_true, or_false, false_or, and_true, true_and, not_false_eq_true, Int.reduceAdd, Int.reduceSub, Int.reduceMul, Int.reduceNeg, e3, e4, e5]
        | with_reducible first | refine izl_lt (fun hc => ?_) (fun hc => ?_) | refine izl_ge (fun hc => ?_) (fun hc => ?_) | refine izl_eq (fun hc => ?_) (fun hc => ?_) | refine ic_ge (fun hc => ?_) (fun hc => ?_) | refine ic_lt (fun hc => ?_) (fun hc => ?_) | refine ic_ne (fun hc => ?_) (fun hc => ?_) | refine ic_eq (fun hc => ?_) (fun hc => ?_) | refine ic_le (fun hc => ?_) (fun hc => ?_) | refine ic_gt (fun hc => ?_) (fun hc => ?_) | refine iz_eq (fun hc => ?_) (fun hc => ?_) | refine iz_ne (fun hc => ?_) (fun hc => ?_) | refine iz_lt (fun hc => ?_) (fun hc => ?_) | refine iz_ge (fun hc => ?_) (fun hc => ?_) | refine iz_gt (fun hc => ?_) (fun hc => ?_) | refine iz_le (fun hc => ?_) (fun hc => ?_) | refine iz_nu (fun hc => ?_) (fun hc => ?_) | refine iz_nn (fun hc => ?_) (fun hc => ?_)
        | omega
        | (exfalso; omega)
      all_goals exact no
  · have no := h0 (fun w => k1 w.1)
    clear h0 h1 ht
    repeat' first
      | exact absurd hc (by decide)
      | simp (disch := omega) only [t_X4_isWord, ue_X4_isWord, ub_X4_isWord_24, zLg, zRf, zFq, zEl, zNz, zUf, zUe, zUr, zCe, zSn, gd_0, gd_1, gd_2, gd_3, gd_4, gd_5, gd_6, gd_7, gd_8, gd_9, gd_10, gd_11, gd_12, gd_13, gd_14, gd_15, gd_16, gd_17, gd_18, gd_19, se_0, se_1, se_2, se_3, se_4, se_5, se_6, se_7, se_8, se_9, se_10, se_11, se_12, se_13, se_14, se_15, se_16, se_17, se_18, se_19, e_const, e_load, e_store, e_iinc, e_dup, e_dup2, e_pop, e_iadd, e_isub, e_imul, e_ladd, e_lsub, e_lmul, e_iaddw, e_isubw, e_imulw, e_laddw, e_lsubw, e_lmulw, e_iand, e_ior, e_ishl, e_ishr, e_iushr, e_lcmp, e_imax, e_imin, e_idiv, e_irem, e_ldiv, e_lrem, e_i2l, e_i2b, e_l2i, e_i2c, e_getF, e_getR, e_putF, e_putR, e_putz, e_ald, e_aldR, e_ast, e_astb, e_astz, e_asta, e_len, e_acopy, e_new, e_newa, e_mna, e_this, e_room, e_call0, e_callv0, e_call1, e_callv1, e_inv1, e_invv1, e_call2, e_callv2, e_inv2, e_invv2, e_call3, e_callv3, e_inv3, e_invv3, e_call4, e_callv4, e_inv4, e_invv4, e_call5, e_callv5, e_inv5, e_invv5, e_call6, e_callv6, e_inv6, e_invv6, e_call7, e_callv7, e_inv7, e_invv7, e_call8, e_callv8, e_inv8, e_invv8, e_ret, e_retz, e_retc, e_retb, e_retv, e_skip, e_sco, e_tlen, e_tat, e_iz_eq0, e_iz_eq1, e_iz_ne0, e_iz_ne1, add0, sc_d, sc_t, inI_e, inL_e, up_eq, true_or, or_true, or_false, false_or, and_true, true_and, not_false_eq_true, Int.reduceAdd, Int.reduceSub, Int.reduceMul, Int.reduceNeg, e5]
      | with_reducible first | refine izl_lt (fun hc => ?_) (fun hc => ?_) | refine izl_ge (fun hc => ?_) (fun hc => ?_) | refine izl_eq (fun hc => ?_) (fun hc => ?_) | refine ic_ge (fun hc => ?_) (fun hc => ?_) | refine ic_lt (fun hc => ?_) (fun hc => ?_) | refine ic_ne (fun hc => ?_) (fun hc => ?_) | refine ic_eq (fun hc => ?_) (fun hc => ?_) | refine ic_le (fun hc => ?_) (fun hc => ?_) | refine ic_gt (fun hc => ?_) (fun hc => ?_) | refine iz_eq (fun hc => ?_) (fun hc => ?_) | refine iz_ne (fun hc => ?_) (fun hc => ?_) | refine iz_lt (fun hc => ?_) (fun hc => ?_) | refine iz_ge (fun hc => ?_) (fun hc => ?_) | refine iz_gt (fun hc => ?_) (fun hc => ?_) | refine iz_le (fun hc => ?_) (fun hc => ?_) | refine iz_nu (fun hc => ?_) (fun hc => ?_) | refine iz_nn (fun hc => ?_) (fun hc => ?_)
      | omega
      | (exfalso; omega)
    all_goals exact no
theorem sX_isName (hT : rdT r q L R) (n9 : n ≤ 900) (ht : ∀ i : Int, 0 ≤ i → i < n → E q i = tp i) (hM : rdM r tp n i F) (h1 : nam tp n i → Q 1 (L, R, F, E, N)) (h0 : ¬ nam tp n i → Q 0 (L, R, F, E, N)) : T_X4_isName [r] (L, R, F, E, N) Q := by
  have pr := rd_p hT
  have r1 := rd_1 hT
  have pq := rd_q hT
  have lq := rd_lq hT
  have e2 := rm_2 hM
  have e3 := rm_3 hM
  have e4 := rm_4 hM
  have e5 := rm_5 hM
  have ib := rm_b hM
  repeat' first
    | exact absurd hc (by decide)
    | with_reducible refine sX_isWord hT n9 ht hM ?_ ?_ (fun z => ?_) (fun z => ?_)
    | simp (disch := omega) only [ub_X4_isName_104, ub_X4_isName_103, ub_X4_isName_86, ub_X4_isName_81, ue_X4_isName, t_X4_isName, zLg, zRf, zFq, zEl, zNz, zUf, zUe, zUr, zCe, zSn, gd_0, gd_1, gd_2, gd_3, gd_4, gd_5, gd_6, gd_7, gd_8, gd_9, gd_10, gd_11, gd_12, gd_13, gd_14, gd_15, gd_16, gd_17, gd_18, gd_19, se_0, se_1, se_2, se_3, se_4, se_5, se_6, se_7, se_8, se_9, se_10, se_11, se_12, se_13, se_14, se_15, se_16, se_17, se_18, se_19, e_const, e_load, e_store, e_iinc, e_dup, e_dup2, e_pop, e_iadd, e_isub, e_imul, e_ladd, e_lsub, e_lmul, e_iaddw, e_isubw, e_imulw, e_laddw, e_lsubw, e_lmulw, e_iand, e_ior, e_ishl, e_ishr, e_iushr, e_lcmp, e_imax, e_imin, e_idiv, e_irem, e_ldiv, e_lrem, e_i2l, e_i2b, e_l2i, e_i2c, e_getF, e_getR, e_putF, e_putR, e_putz, e_ald, e_aldR, e_ast, e_astb, e_astz, e_asta, e_len, e_acopy, e_new, e_newa, e_mna, e_this, e_room, e_call0, e_callv0, e_call1, e_callv1, e_inv1, e_invv1, e_call2, e_callv2, e_inv2, e_invv2, e_call3, e_callv3, e_inv3, e_invv3, e_call4, e_callv4, e_inv4, e_invv4, e_call5, e_callv5, e_inv5, e_invv5, e_call6, e_callv6, e_inv6, e_invv6, e_call7, e_callv7, e_inv7, e_invv7, e_call8, e_callv8, e_inv8, e_invv8, e_ret, e_retz, e_retc, e_retb, e_retv, e_skip, e_sco, e_tlen, e_tat, e_iz_eq0, e_iz_eq1, e_iz_ne0, e_iz_ne1, add0, sc_d, sc_t, inI_e, inL_e, up_eq, true_or, or_true, or_false, false_or, and_true, true_and, not_false_eq_true, Int.reduceAdd, Int.reduceSub, Int.reduceMul, Int.reduceNeg, e5]
    | with_reducible first | refine izl_lt (fun hc => ?_) (fun hc => ?_) | refine izl_ge (fun hc => ?_) (fun hc => ?_) | refine izl_eq (fun hc => ?_) (fun hc => ?_) | refine ic_ge (fun hc => ?_) (fun hc => ?_) | refine ic_lt (fun hc => ?_) (fun hc => ?_) | refine ic_ne (fun hc => ?_) (fun hc => ?_) | refine ic_eq (fun hc => ?_) (fun hc => ?_) | refine ic_le (fun hc => ?_) (fun hc => ?_) | refine ic_gt (fun hc => ?_) (fun hc => ?_) | refine iz_eq (fun hc => ?_) (fun hc => ?_) | refine iz_ne (fun hc => ?_) (fun hc => ?_) | refine iz_lt (fun hc => ?_) (fun hc => ?_) | refine iz_ge (fun hc => ?_) (fun hc => ?_) | refine iz_gt (fun hc => ?_) (fun hc => ?_) | refine iz_le (fun hc => ?_) (fun hc => ?_) | refine iz_nu (fun hc => ?_) (fun hc => ?_) | refine iz_nn (fun hc => ?_) (fun hc => ?_)
    | omega
    | (exfalso; omega)
  all_goals first
    | (refine h1 ?_; unfold nam; omega)
    | (refine h0 ?_; unfold nam; omega)
theorem sX_nameNumber (hT : rdT r q L R) (k0 : 0 ≤ k) (k1 : k ≤ 35) (hk : F r 13 = k) (hw : F r 7 = v) (hn : ∀ q : Int, 0 ≤ q → q < k → E (r + 1) q = nm q) (hQ : Q (fdn nm k v) (L, R, F, E, N)) : T_X4_nameNumber [r] (L, R, F, E, N) Q := by
  have pr := rd_p hT
  have r11 := rd_11 hT
  have l1 := rd_l1 hT
  simp (disch := omega) only [t_X4_nameNumber, ue_X4_nameNumber, zLg, zRf, zFq, zEl, zNz, zUf, zUe, zUr, zCe, zSn, gd_0, gd_1, gd_2, gd_3, gd_4, gd_5, gd_6, gd_7, gd_8, gd_9, gd_10, gd_11, gd_12, gd_13, gd_14, gd_15, gd_16, gd_17, gd_18, gd_19, se_0, se_1, se_2, se_3, se_4, se_5, se_6, se_7, se_8, se_9, se_10, se_11, se_12, se_13, se_14, se_15, se_16, se_17, se_18, se_19, e_const, e_load, e_store, e_iinc, e_dup, e_dup2, e_pop, e_iadd, e_isub, e_imul, e_ladd, e_lsub, e_lmul, e_iaddw, e_isubw, e_imulw, e_laddw, e_lsubw, e_lmulw, e_iand, e_ior, e_ishl, e_ishr, e_iushr, e_lcmp, e_imax, e_imin, e_idiv, e_irem, e_ldiv, e_lrem, e_i2l, e_i2b, e_l2i, e_i2c, e_getF, e_getR, e_putF, e_putR, e_putz, e_ald, e_aldR, e_ast, e_astb, e_astz, e_asta, e_len, e_acopy, e_new, e_newa, e_mna, e_this, e_room, e_call0, e_callv0, e_call1, e_callv1, e_inv1, e_invv1, e_call2, e_callv2, e_inv2, e_invv2, e_call3, e_callv3, e_inv3, e_invv3, e_call4, e_callv4, e_inv4, e_invv4, e_call5, e_callv5, e_inv5, e_invv5, e_call6, e_callv6, e_inv6, e_invv6, e_call7, e_callv7, e_inv7, e_invv7, e_call8, e_callv8, e_inv8, e_invv8, e_ret, e_retz, e_retc, e_retb, e_retv, e_skip, e_sco, e_tlen, e_tat, e_iz_eq0, e_iz_eq1, e_iz_ne0, e_iz_ne1, add0, sc_d, sc_t, inI_e, inL_e, up_eq, true_or, or_true, or_false, false_or, and_true, true_and, not_false_eq_true, Int.reduceAdd, Int.reduceSub, Int.reduceMul, Int.reduceNeg]
  unfold L_X4_nameNumber_2
  refine lpw (fun nn lo st h c d => ∃ z : Int, lo = [r, z] ∧ st = [] ∧ h = (L, R, F, E, N) ∧ 0 ≤ z ∧ z ≤ k ∧ (nn : Int) = k - z ∧ fdF nm v z.toNat = -1) ?_ (n := k.toNat) ⟨0, rfl, rfl, rfl, by omega, by omega, by omega, rfl⟩
  rintro nn kk hkk lo st h c9 s9 ⟨z, rfl, rfl, rfl, z0, z1, hn1, hz⟩
  by_cases ze : z < k
  · have ez : E (r + 1) z = nm z := hn z z0 ze
    have s1 : fdF nm v (z.toNat + 1) = if nm z = v then z else -1 := by
      rw [fdF_s, if_neg (by omega), Int.toNat_of_nonneg z0]
    have go1 : nm z ≠ v → kk [r, z + 1] [] (L, R, F, E, N) c9 s9 := fun y => by
      refine hkk (nn - 1) _ _ _ _ _ (by omega) ⟨z + 1, rfl, rfl, rfl, by omega, by omega, by omega, ?_⟩
      rw [show (z + 1).toNat = z.toNat + 1 by omega, s1, if_neg y]
    have ok : nm z = v → Q z (L, R, F, E, N) := fun y => by
      rw [if_pos y] at s1
      have u := fdF_up (nm := nm) (w := v) (j := z.toNat + 1) (by omega) (k.toNat - (z.toNat + 1))
      rw [show z.toNat + 1 + (k.toNat - (z.toNat + 1)) = k.toNat by omega, s1] at u
      unfold fdn at hQ
      rw [u] at hQ
      exact hQ
    clear hkk hQ hn s1
    repeat' first
      | exact absurd hc (by decide)
      | with_reducible refine izl_ne (fun hc => ?_) (fun hc => ?_)
      | simp (disch := omega) only [ub_X4_nameNumber_38, zLg, zRf, zFq, zEl, zNz, zUf, zUe, zUr, zCe, zSn, gd_0, gd_1, gd_2, gd_3, gd_4, gd_5, gd_6, gd_7, gd_8, gd_9, gd_10, gd_11, gd_12, gd_13, gd_14, gd_15, gd_16, gd_17, gd_18, gd_19, se_0, se_1, se_2, se_3, se_4, se_5, se_6, se_7, se_8, se_9, se_10, se_11, se_12, se_13, se_14, se_15, se_16, se_17, se_18, se_19, e_const, e_load, e_store, e_iinc, e_dup, e_dup2, e_pop, e_iadd, e_isub, e_imul, e_ladd, e_lsub, e_lmul, e_iaddw, e_isubw, e_imulw, e_laddw, e_lsubw, e_lmulw, e_iand, e_ior, e_ishl, e_ishr, e_iushr, e_lcmp, e_imax, e_imin, e_idiv, e_irem, e_ldiv, e_lrem, e_i2l, e_i2b, e_l2i, e_i2c, e_getF, e_getR, e_putF, e_putR, e_putz, e_ald, e_aldR, e_ast, e_astb, e_astz, e_asta, e_len, e_acopy, e_new, e_newa, e_mna, e_this, e_room, e_call0, e_callv0, e_call1, e_callv1, e_inv1, e_invv1, e_call2, e_callv2, e_inv2, e_invv2, e_call3, e_callv3, e_inv3, e_invv3, e_call4, e_callv4, e_inv4, e_invv4, e_call5, e_callv5, e_inv5, e_invv5, e_call6, e_callv6, e_inv6, e_invv6, e_call7, e_callv7, e_inv7, e_invv7, e_call8, e_callv8, e_inv8, e_invv8, e_ret, e_retz, e_retc, e_retb, e_retv, e_skip, e_sco, e_tlen, e_tat, e_iz_eq0, e_iz_eq1, e_iz_ne0, e_iz_ne1, add0, sc_d, sc_t, inI_e, inL_e, up_eq, true_or, or_true, or_false, false_or, and_true, true_and, not_false_eq_true, Int.reduceAdd, Int.reduceSub, Int.reduceMul, Int.reduceNeg, hk, hw, r11, l1, ez]
      | with_reducible first | refine izl_lt (fun hc => ?_) (fun hc => ?_) | refine izl_ge (fun hc => ?_) (fun hc => ?_) | refine izl_eq (fun hc => ?_) (fun hc => ?_) | refine ic_ge (fun hc => ?_) (fun hc => ?_) | refine ic_lt (fun hc => ?_) (fun hc => ?_) | refine ic_ne (fun hc => ?_) (fun hc => ?_) | refine ic_eq (fun hc => ?_) (fun hc => ?_) | refine ic_le (fun hc => ?_) (fun hc => ?_) | refine ic_gt (fun hc => ?_) (fun hc => ?_) | refine iz_eq (fun hc => ?_) (fun hc => ?_) | refine iz_ne (fun hc => ?_) (fun hc => ?_) | refine iz_lt (fun hc => ?_) (fun hc => ?_) | refine iz_ge (fun hc => ?_) (fun hc => ?_) | refine iz_gt (fun hc => ?_) (fun hc => ?_) | refine iz_le (fun hc => ?_) (fun hc => ?_) | refine iz_nu (fun hc => ?_) (fun hc => ?_) | refine iz_nn (fun hc => ?_) (fun hc => ?_)
      | omega
      | (exfalso; omega)
    all_goals first
      | exact go1 (by assumption)
      | exact ok (by assumption)
  · have zk : z = k := by omega
    have ok : Q (-1) (L, R, F, E, N) := by
      unfold fdn at hQ
      rw [← zk, hz] at hQ
      exact hQ
    clear hkk hQ hn
    repeat' first
      | exact absurd hc (by decide)
      | simp (disch := omega) only [ub_X4_nameNumber_38, zLg, zRf, zFq, zEl, zNz, zUf, zUe, zUr, zCe, zSn, gd_0, gd_1, gd_2, gd_3, gd_4, gd_5, gd_6, gd_7, gd_8, gd_9, gd_10, gd_11, gd_12, gd_13, gd_14, gd_15, gd_16, gd_17, gd_18, gd_19, se_0, se_1, se_2, se_3, se_4, se_5, se_6, se_7, se_8, se_9, se_10, se_11, se_12, se_13, se_14, se_15, se_16, se_17, se_18, se_19, e_const, e_load, e_store, e_iinc, e_dup, e_dup2, e_pop, e_iadd, e_isub, e_imul, e_ladd, e_lsub, e_lmul, e_iaddw, e_isubw, e_imulw, e_laddw, e_lsubw, e_lmulw, e_iand, e_ior, e_ishl, e_ishr, e_iushr, e_lcmp, e_imax, e_imin, e_idiv, e_irem, e_ldiv, e_lrem, e_i2l, e_i2b, e_l2i, e_i2c, e_getF, e_getR, e_putF, e_putR, e_putz, e_ald, e_aldR, e_ast, e_astb, e_astz, e_asta, e_len, e_acopy, e_new, e_newa, e_mna, e_this, e_room, e_call0, e_callv0, e_call1, e_callv1, e_inv1, e_invv1, e_call2, e_callv2, e_inv2, e_invv2, e_call3, e_callv3, e_inv3, e_invv3, e_call4, e_callv4, e_inv4, e_invv4, e_call5, e_callv5, e_inv5, e_invv5, e_call6, e_callv6, e_inv6, e_invv6, e_call7, e_callv7, e_inv7, e_invv7, e_call8, e_callv8, e_inv8, e_invv8, e_ret, e_retz, e_retc, e_retb, e_retv, e_skip, e_sco, e_tlen, e_tat, e_iz_eq0, e_iz_eq1, e_iz_ne0, e_iz_ne1, add0, sc_d, sc_t, inI_e, inL_e, up_eq, true_or, or_true, or_false, false_or, and_true, true_and, not_false_eq_true, Int.reduceAdd, Int.reduceSub, Int.reduceMul, Int.reduceNeg, hk]
      | with_reducible first | refine izl_lt (fun hc => ?_) (fun hc => ?_) | refine izl_ge (fun hc => ?_) (fun hc => ?_) | refine izl_eq (fun hc => ?_) (fun hc => ?_) | refine ic_ge (fun hc => ?_) (fun hc => ?_) | refine ic_lt (fun hc => ?_) (fun hc => ?_) | refine ic_ne (fun hc => ?_) (fun hc => ?_) | refine ic_eq (fun hc => ?_) (fun hc => ?_) | refine ic_le (fun hc => ?_) (fun hc => ?_) | refine ic_gt (fun hc => ?_) (fun hc => ?_) | refine iz_eq (fun hc => ?_) (fun hc => ?_) | refine iz_ne (fun hc => ?_) (fun hc => ?_) | refine iz_lt (fun hc => ?_) (fun hc => ?_) | refine iz_ge (fun hc => ?_) (fun hc => ?_) | refine iz_gt (fun hc => ?_) (fun hc => ?_) | refine iz_le (fun hc => ?_) (fun hc => ?_) | refine iz_nu (fun hc => ?_) (fun hc => ?_) | refine iz_nn (fun hc => ?_) (fun hc => ?_)
      | omega
      | (exfalso; omega)
    all_goals exact ok
end ITEMX

/-! ===== the gates change ===== -/
def kpH (C : Cy) (n : Int) (H : Int → Int → Int → Int) : Int → Int → Int → Int := fun i => if i = n - shf n then C 2 else H (i + shf n)
def kpN (C : Cy) (n : Int) (HN : Int → Int) : Int → Int := fun i => if i = n - shf n then C 0 1 0 else HN (i + shf n)
theorem kpH_e {C : Cy} {n : Int} {H : Int → Int → Int → Int} : kpH C n H (n - shf n) = C 2 := if_pos rfl
theorem kpH_n {C : Cy} {n i : Int} {H : Int → Int → Int → Int} (h : i ≠ n - shf n) : kpH C n H i = H (i + shf n) := if_neg h
theorem kpN_e {C : Cy} {n : Int} {HN : Int → Int} : kpN C n HN (n - shf n) = C 0 1 0 := if_pos rfl
theorem kpN_n {C : Cy} {n i : Int} {HN : Int → Int} (h : i ≠ n - shf n) : kpN C n HN i = HN (i + shf n) := if_neg h
theorem unC_un {C : Cy} {T T' : Int → Int → Int} {k k' : Int} : unC (unC C T k) T' k' = unC C T' k' := by
  funext x y z
  by_cases h2 : x = 2
  · rw [h2, unC_2, unC_2]
  · by_cases h0 : x = 0 ∧ y = 1 ∧ z = 0
    · rw [h0.1, h0.2.1, h0.2.2, unC_k, unC_k]
    · rw [unC_ne h2 (by omega), unC_ne h2 (by omega), unC_ne h2 (by omega)]
theorem unC_id {C : Cy} : unC C (C 2) (C 0 1 0) = C := by
  funext x y z
  by_cases h2 : x = 2
  · rw [h2, unC_2]
  · by_cases h0 : x = 0 ∧ y = 1 ∧ z = 0
    · rw [h0.1, h0.2.1, h0.2.2, unC_k]
    · rw [unC_ne h2 (by omega)]
theorem unC_W {C : Cy} (hW : ctW C) {T : Int → Int → Int} {k : Int} (k0 : 0 ≤ k) (k1 : k ≤ 11) (t0 : ∀ q : Int, 0 ≤ q → q < k → 0 ≤ T q 0 ∧ T q 0 + 1 < C 0 0 0) (t1 : ∀ q : Int, 0 ≤ q → q < k → 0 ≤ T q 1 ∧ T q 1 < 12) (t2 : ∀ q : Int, 0 ≤ q → q < k → 1 ≤ T q 2 ∧ T q 2 ≤ 99) (t3 : ∀ q : Int, 0 ≤ q → q < k → 1 ≤ T q 3 ∧ T q 3 ≤ 99) (t4 : ∀ q : Int, 0 ≤ q → q < k → 1 ≤ T q 4 ∧ T q 4 ≤ 9) (t5 : ∀ q : Int, 0 ≤ q → q < k → 0 ≤ T q 5 ∧ T q 5 ≤ 99) (t6 : ∀ q : Int, 0 ≤ q → q < k → T q 6 = 0 ∨ T q 6 = 1) : ctW (unC C T k) := by
  have n : ∀ x y z : Int, x ≠ 2 → (x ≠ 0 ∨ y ≠ 1 ∨ z ≠ 0) → unC C T k x y z = C x y z := fun x y z a b => unC_ne a b
  unfold ctW
  simp (disch := omega) only [n, unC_2, unC_k]
  exact ⟨cw_0 hW, ⟨k0, k1⟩, cw_2 hW, cw_3 hW, cw_4 hW, cw_w hW, t0, t1, t2, t3, t4, t5, t6, cw_c0 hW, cw_c1 hW, cw_s1 hW, cw_s2 hW, cw_o0 hW, cw_o1 hW, cw_o2 hW, cw_o3 hW, cw_o4 hW, cw_o5 hW, cw_k hW, cw_k4 hW, cw_k5 hW, cw_k6 hW⟩
section GATES
variable {L : Int → Int} {R R' F F' E E' : Int → Int → Int} {N : Nat} {Q : xQ} {B a m c fd tr fa pl k n t i j g x y z w h r p r0 p0 r1 p1 x0 x1 x2 x3 x4 x5 : Int} {C : Cy} {tp : Int → Int} {D : Int → Int → Int} {M H : Int → Int → Int → Int} {HN : Int → Int}
variable {T : Int → Int → Int} {kk : Int}
theorem ctM_un (hM : ctM a C F E) (hW : ctW C) (h1 : F' a 1 = kk) (hT : ∀ q z : Int, 0 ≤ q → q < kk → 0 ≤ z → z < 7 → E' (a + 3 + q) z = T q z) (hF : ∀ b j : Int, a ≤ b → b < a + 105 → (b ≠ a ∨ j ≠ 1) → F' b j = F b j) (hE : ∀ b j : Int, a ≤ b → b < a + 105 → (b < a + 3 ∨ a + 14 ≤ b) → E' b j = E b j) : ctM a (unC C T kk) F' E' := by
  have b0 := cw_0 hW
  have b2 := cw_2 hW
  have b3 := cw_3 hW
  have b4 := cw_4 hW
  have n : ∀ x y z : Int, x ≠ 2 → (x ≠ 0 ∨ y ≠ 1 ∨ z ≠ 0) → unC C T kk x y z = C x y z := fun x y z a b => unC_ne a b
  have hwh : ∀ k, wh (unC C T kk) k = wh C k := fun k => by
    funext i
    unfold wh
    rw [n 6 k 6 (by omega) (by omega), n 6 k 5 (by omega) (by omega), n 6 k i (by omega) (by omega)]
  have hp : ∀ k, pn (unC C T kk) k = pn C k := fun k => by unfold pn; rw [n 6 k 6 (by omega) (by omega), n 6 k 4 (by omega) (by omega)]
  have hpt : ∀ k, pt (unC C T kk) k = pt C k := fun k => by
    funext i
    unfold pt
    rw [n 6 k 0 (by omega) (by omega), n 6 k 3 (by omega) (by omega), n 6 k 6 (by omega) (by omega), n 6 k 5 (by omega) (by omega), n 6 k i (by omega) (by omega), hp]
  have th : ∀ (t : Int) (th : Int → Int), a + 14 ≤ t → t + 4 ≤ a + 105 → thM t th F E → thM t th F' E' := fun t th u v w => by
    obtain ⟨y0, y1, y2, y3, y4, y5, y6, y7, y8, y9, y10, y11, y12⟩ := w
    exact ⟨(hE _ _ (by omega) (by omega) (by omega)).trans y0, (hE _ _ (by omega) (by omega) (by omega)).trans y1, (hE _ _ (by omega) (by omega) (by omega)).trans y2, (hE _ _ (by omega) (by omega) (by omega)).trans y3, (hE _ _ (by omega) (by omega) (by omega)).trans y4, (hE _ _ (by omega) (by omega) (by omega)).trans y5, (hE _ _ (by omega) (by omega) (by omega)).trans y6, (hE _ _ (by omega) (by omega) (by omega)).trans y7, (hE _ _ (by omega) (by omega) (by omega)).trans y8, (hF _ _ (by omega) (by omega) (by omega)).trans y9, (hF _ _ (by omega) (by omega) (by omega)).trans y10, (hF _ _ (by omega) (by omega) (by omega)).trans y11, (hF _ _ (by omega) (by omega) (by omega)).trans y12⟩
  unfold ctM
  simp (disch := omega) only [n, unC_2, unC_k, hwh, hpt]
  exact ⟨(hF _ _ (by omega) (by omega) (by omega)).trans (cm_0 hM), h1, (hF _ _ (by omega) (by omega) (by omega)).trans (cm_2 hM), (hF _ _ (by omega) (by omega) (by omega)).trans (cm_3 hM), (hF _ _ (by omega) (by omega) (by omega)).trans (cm_4 hM), fun r x z => (hE _ _ (by omega) (by omega) (by omega)).trans (cm_w hM r x z), hT, fun q z x1 x2 x3 x4 => (hE _ _ (by omega) (by omega) (by omega)).trans (cm_c hM q z x1 x2 x3 x4), fun q z x1 x2 x3 x4 => (hE _ _ (by omega) (by omega) (by omega)).trans (cm_s hM q z x1 x2 x3 x4), fun q z x1 x2 x3 x4 => (hE _ _ (by omega) (by omega) (by omega)).trans (cm_o hM q z x1 x2 x3 x4), fun q x1 x2 => th _ _ (by omega) (by omega) (cm_wh hM q x1 x2), fun q x1 x2 => th _ _ (by omega) (by omega) (cm_pt hM q x1 x2)⟩
theorem acX_keep {A : Int} (h : acX A C n H HN F E) (n0 : 0 ≤ n) (n1 : n ≤ 10) (g0 : 0 ≤ g) (g1 : g < 11) (hF0 : F' A 0 = n - shf n + 1) (hsh : ∀ i j : Int, 0 ≤ i → i < n - shf n → 0 ≤ j → j < 5 → E' (A + 2 + i) j = E (A + 2 + (i + shf n)) j) (e0 : E' (A + 2 + (n - shf n)) 0 = g) (e1 : E' (A + 2 + (n - shf n)) 1 = C 0 1 0) (e2 : g < C 0 1 0 → E' (A + 2 + (n - shf n)) 2 = C 2 g 2) (e3 : g < C 0 1 0 → E' (A + 2 + (n - shf n)) 3 = C 2 g 3) (e4 : g < C 0 1 0 → E' (A + 2 + (n - shf n)) 4 = C 2 g 6) (hT : ∀ q z : Int, 0 ≤ q → q < C 0 1 0 → 0 ≤ z → z < 7 → (q ≠ g ∨ (z ≠ 2 ∧ z ≠ 3 ∧ z ≠ 6)) → T q z = C 2 q z) : acX A (unC C T kk) (n - shf n + 1) (kpH C n H) (kpN C n HN) F' E' := by
  have sb := shf_b n n0 n1
  refine ⟨hF0, fun i i0 i1 => ?_⟩
  by_cases z : i = n - shf n
  · subst z
    rw [kpH_e, kpN_e]
    refine ⟨by rw [e0]; exact ⟨g0, g1⟩, e1, fun q w q0 q1 w0 w1 => ?_⟩
    rw [if_pos (rfl : n - shf n + 1 = n - shf n + 1), unC_2, e0]
    by_cases a2 : q = g ∧ w = 2
    · rw [if_pos a2, a2.1, a2.2]; exact (e2 (by omega)).symm
    · rw [if_neg a2]
      by_cases a3 : q = g ∧ w = 3
      · rw [if_pos a3, a3.1, a3.2]; exact (e3 (by omega)).symm
      · rw [if_neg a3]
        by_cases a6 : q = g ∧ w = 6
        · rw [if_pos a6, a6.1, a6.2]; exact (e4 (by omega)).symm
        · rw [if_neg a6]; exact (hT q w q0 q1 w0 w1 (by omega)).symm
  · have s0 := hsh i 0 i0 (by omega) (by omega) (by omega)
    have s1 := hsh i 1 i0 (by omega) (by omega) (by omega)
    have s2 := hsh i 2 i0 (by omega) (by omega) (by omega)
    have s3 := hsh i 3 i0 (by omega) (by omega) (by omega)
    have s4 := hsh i 4 i0 (by omega) (by omega) (by omega)
    obtain ⟨o1, o2, o3⟩ := h.2 (i + shf n) (by omega) (by omega)
    rw [kpH_n z, kpN_n z, s0, s1]
    refine ⟨o1, o2, fun q w q0 q1 w0 w1 => ?_⟩
    rw [o3 q w q0 q1 w0 w1, s2, s3, s4]
    have e : (if i + shf n + 1 = n then C 2 q w else H (i + shf n + 1) q w) = if i + 1 = n - shf n + 1 then unC C T kk 2 q w else kpH C n H (i + 1) q w := by
      rw [if_neg (show ¬ i + 1 = n - shf n + 1 by omega)]
      by_cases y : i + shf n + 1 = n
      · rw [if_pos y, show i + 1 = n - shf n by omega, kpH_e]
      · rw [if_neg y, kpH_n (by omega), show i + 1 + shf n = i + shf n + 1 by omega]
    rw [e]
theorem haM_keep (h : haM m n H HN F E) (n0 : 0 ≤ n) (n1 : n ≤ 10) (b1 : C 0 1 0 ≤ 11) (hg : ∀ q z : Int, 0 ≤ q → q < C 0 1 0 → 0 ≤ z → z < 7 → E (m + 2) (7 * q + z) = C 2 q z) (h44 : F' m 44 = n - shf n + 1) (k1 : ∀ i q : Int, 0 ≤ i → i < n - shf n → 0 ≤ q → q < 77 → E' (m + 14) (77 * i + q) = E (m + 14) (77 * (i + shf n) + q)) (k2 : ∀ q : Int, 0 ≤ q → q < 77 → E' (m + 14) (77 * (n - shf n) + q) = E (m + 2) q) (k3 : ∀ i : Int, 0 ≤ i → i < n - shf n → E' (m + 15) i = E (m + 15) (i + shf n)) (k4 : E' (m + 15) (n - shf n) = C 0 1 0) (hb : ∀ i : Int, 0 ≤ i → i < n → HN i ≤ 11) : haM m (n - shf n + 1) (kpH C n H) (kpN C n HN) F' E' := by
  have sb := shf_b n n0 n1
  refine ⟨h44, fun i i0 i1 => ?_⟩
  by_cases z : i = n - shf n
  · subst z
    rw [kpH_e, kpN_e]
    refine ⟨k4, fun q w q0 q1 w0 w1 => ?_⟩
    rw [k2 _ (by omega) (by omega)]
    exact hg q w q0 q1 w0 w1
  · obtain ⟨o1, o2⟩ := h.2 (i + shf n) (by omega) (by omega)
    have hbi := hb (i + shf n) (by omega) (by omega)
    rw [kpH_n z, kpN_n z]
    refine ⟨(k3 i i0 (by omega)).trans o1, fun q w q0 q1 w0 w1 => ?_⟩
    rw [k1 i _ i0 (by omega) (by omega) (by omega)]
    exact o2 q w q0 q1 w0 w1
theorem stW_plan (hs : stW C tp fd tr D k M n H HN) (hW : ctW (unC C T kk)) (hr : 0 < C 0 0 0) {n' : Int} {H' : Int → Int → Int → Int} {HN' : Int → Int} (n0 : 0 ≤ n' ∧ n' ≤ 10) (hh : ∀ i : Int, 0 ≤ i → i < n' → ctW (unC C (H' i) (HN' i)) ∧ HN' i ≤ (if i + 1 = n' then kk else HN' (i + 1))) : stW (unC C T kk) tp fd t (dwD (unC C T kk)) 0 M n' H' HN' := by
  obtain ⟨w1, w2, w3⟩ := dwD_ok hW
  refine ⟨hW, Or.inr (by rw [unC_ne (by omega) (by omega)]; exact hr), sw_f hs, sw_tp hs, ⟨w1, w2, rfl, fun _ => rfl⟩, by omega, fun i u v => by omega, n0, fun i u v => ?_⟩
  rw [unC_un, unC_k]
  exact hh i u v
theorem stW_keep (hs : stW C tp fd tr D k M n H HN) (hW : ctW (unC C T kk)) (hr : 0 < C 0 0 0) (hk : C 0 1 0 ≤ kk) : stW (unC C T kk) tp fd t (dwD (unC C T kk)) 0 M (n - shf n + 1) (kpH C n H) (kpN C n HN) := by
  have bn := sw_n hs
  have sb := shf_b n bn.1 bn.2
  refine stW_plan hs hW hr (by omega) (fun i u v => ?_)
  by_cases z : i = n - shf n
  · subst z
    rw [kpH_e, kpN_e, unC_id, if_pos rfl]
    exact ⟨sw_w hs, hk⟩
  · have hh := sw_h hs (i + shf n) (by omega) (by omega)
    rw [kpH_n z, kpN_n z, if_neg (by omega)]
    refine ⟨hh.1, ?_⟩
    by_cases y : i + shf n + 1 = n
    · rw [if_pos y] at hh
      rw [show i + 1 = n - shf n by omega, kpN_e]
      exact hh.2
    · rw [if_neg y] at hh
      rw [kpN_n (by omega), show i + 1 + shf n = i + shf n + 1 by omega]
      exact hh.2
theorem stW_undo (hs : stW C tp fd tr D k M n H HN) (hn : 1 ≤ n) : stW (unC C (H (n - 1)) (HN (n - 1))) tp fd t (dwD (unC C (H (n - 1)) (HN (n - 1)))) 0 M (n - 1) H HN := by
  have bn := sw_n hs
  have hh := sw_h hs (n - 1) (by omega) (by omega)
  refine stW_plan hs hh.1 (ring_of (x := 0) hs (by omega)) (by omega) (fun i u v => ?_)
  have hi := sw_h hs i u (by omega)
  rw [if_neg (by omega)] at hi
  refine ⟨hi.1, ?_⟩
  by_cases y : i + 1 = n - 1
  · rw [if_pos y, ← y]; exact hi.2
  · rw [if_neg y]; exact hi.2
theorem cX_plan (hT : clT B a L R) (hW : ctW C) (hC : ctM a C F E) (hn : n ≤ 10) (f1 : F B 1 = fd) (ft : ∀ i : Int, 0 ≤ i → i < fd → E (B + 1) i = tp i) (f15 : F B 15 = fa) (fac : acX (B + 309) C n H HN F E) (fr : F (B + 325) 3 = 0 ∧ F (B + 325) 4 = 0 ∧ F (B + 325) 5 = 0 ∧ F (B + 325) 6 = 0) (hQ : ∀ R' F' E' : Int → Int → Int, clT B a L R' → ctM a C F' E' → (∀ t : Int, t ≠ 4 → clM B a C tp fd t fa pl (dwD C) 0 M n H HN R' (up F' B 17 t) E') → fX B R R' F F' E E' → Q 0 (L, R', F', E', N)) : T_X8_planAnew [B] (L, R, F, E, N) Q := by
  have pB := cl_p hT
  have ca := cl_a hT
  have b4 := cw_4 hW
  refine sX_planAnew pB (by omega) (cl_2 hT) (cl_5 hT) (cl_6 hT) (cl_9 hT) (cl_fn hT) (cl_ct hT) hC hW (by omega) (by omega) (by omega) (cl_l220 hT) (cl_wy hT) (cl_dy hT) (fun R1 F1 E1 r1 r2 hS hX e11 fF fE => ?_)
  have fB : ∀ b j : Int, (b < B + 216 ∨ B + 220 + 17 ≤ b) → (b < B + 240 ∨ B + 240 + 17 ≤ b) → (b ≠ B ∨ (j ≠ 11 ∧ j ≠ 17)) → ∀ t : Int, up F1 B 17 t b j = F b j := fun b j u v w t => (up_ne (by omega)).trans (fF b j u v (by omega))
  refine hQ R1 F1 E1 (hT.fR (fun b j _ _ u v _ => r1 b j u v)) (ds_cm hS) (fun t ht => ⟨(ds_cm hS).fa hW (fun b j u v => up_ne (by omega)) (fun _ _ _ _ => rfl), (fB _ _ (by omega) (by omega) (by omega) t).trans f1, fun i u v => (fE _ _ (by omega) (by omega)).trans (ft i u v), (fB _ _ (by omega) (by omega) (by omega) t).trans f15, up_eq, fun z => absurd z ht, fun o u v => (ds_w hS o u v).fa (fun j => up_ne (by omega)) (fun _ => rfl), r2, ds_8 hS, ds_9 hS, (up_ne (by omega)).trans hX.1, (up_ne (by omega)).trans hX.2.1, fun z => hX.fa (fun j => up_ne (by omega)) (fun _ _ _ _ => rfl), (up_ne (by omega)).trans e11, fun i u v => by omega, fac.fa hn (fB _ _ (by omega) (by omega) (by omega) t) (fun b j u v => fE _ _ (by omega) (by omega)), ⟨(fB _ _ (by omega) (by omega) (by omega) t).trans fr.1, (fB _ _ (by omega) (by omega) (by omega) t).trans fr.2.1, (fB _ _ (by omega) (by omega) (by omega) t).trans fr.2.2.1, (fB _ _ (by omega) (by omega) (by omega) t).trans fr.2.2.2⟩⟩) (fun b j z => ⟨r1 b j (by omega) (by omega), fF b j (by omega) (by omega) (by omega), fE b j (by omega) (by omega)⟩)
theorem rfP (hTm : mtT m L R) (f6 : F m 6 = fd) (ft : ∀ i : Int, 0 ≤ i → i < fd → E (m + 1) i = wB (tp i)) (f13 : F m 13 = fa) (hr : 0 < C 0 0 0) (hmc : m + 16 < c) (ha : haM m n H HN F E) {F3 E3 : Int → Int → Int} (d1 : frDF m F F3) (d2 : frDE m E E3) (d3 : F3 m 39 = 0) (d4 : dmS m c C L R F3 E3) (d5 : dmM m C (dwD C) F3 E3) : rfM m c C tp fd 0 fa pl (dwD C) 0 M n H HN L R (up (up F3 m 1 0) m 2 (-1)) E3 := by
  have qG : ∀ b j : Int, (b ≠ m ∨ (j ≠ 1 ∧ j ≠ 2)) → up (up F3 m 1 0) m 2 (-1) b j = F3 b j := fun b j z => by rw [up_ne (by omega), up_ne (by omega)]
  have qF : ∀ b j : Int, (b ≠ m ∨ ((j < 18 ∨ (31 ≤ j ∧ j ≠ 38 ∧ j ≠ 39)) ∧ j ≠ 1 ∧ j ≠ 2)) → up (up F3 m 1 0) m 2 (-1) b j = F b j := fun b j z => (qG b j (by omega)).trans (d1 b j (by omega))
  exact ⟨hTm, (qF _ _ (by omega)).trans f6, fun i u v => (d2 _ _ (by omega)).trans (ft i u v), (qF _ _ (by omega)).trans f13, by rw [up_ne (by omega), up_eq], by rw [up_eq, if_neg (by omega)], Or.inr ⟨hr, d4.ga (qG _ _ (by omega)) (fun j => qG _ _ (by omega)) (fun _ _ _ => rfl), d5.fr (qG _ _ (by omega)) (fun _ _ _ => rfl)⟩, (qG _ _ (by omega)).trans d3, fun i u v => by omega, ha.fa (qF _ _ (by omega)) (fun b j z => d2 _ _ (by omega))⟩
end GATES

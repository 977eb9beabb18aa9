/-! ===== both objects at once ===== -/
section BOTH
variable {L L' : Int → Int} {R R' R1 R2 F F' F1 F2 E E' E1 E2 : Int → Int → Int} {N N' : Nat} {Q : xQ} {B a a1 m c c2 fd tr fa pl k n t i j g x y z w : Int} {C : Cy} {tp : Int → Int} {D : Int → Int → Int} {M H : Int → Int → Int → Int} {HN : Int → Int}
theorem rfM.xx (h : rfM m c C tp fd tr fa pl D k M n H HN L R F E) (hL : ∀ b : Int, m ≤ b → b < m + 16 → L' b = L b) (hLc : ∀ b : Int, c ≤ b → b < c + 23 → L' b = L b) (hx : ∀ b j : Int, m ≤ b → R' b j = R b j ∧ F' b j = F b j ∧ E' b j = E b j) : rfM m c C tp fd tr fa pl D k M n H HN L' R' F' E' := by
  have qR : ∀ b j : Int, m ≤ b → R' b j = R b j := fun b j u => (hx b j u).1
  have qF : ∀ b j : Int, m ≤ b → F' b j = F b j := fun b j u => (hx b j u).2.1
  have qE : ∀ b j : Int, m ≤ b → E' b j = E b j := fun b j u => (hx b j u).2.2
  refine ⟨(rx_t h).gg hL (fun j _ => qR _ _ (by omega)), (qF _ _ (by omega)).trans (rx_6 h), fun i u v => (qE _ _ (by omega)).trans (rx_tp h i u v), (qF _ _ (by omega)).trans (rx_13 h), (qF _ _ (by omega)).trans (rx_1 h), (qF _ _ (by omega)).trans (rx_2 h), ?_, (qF _ _ (by omega)).trans (rx_39 h), fun i u v => (rx_k h i u v).fa (fun j => qE _ _ (by omega)), (rx_a h).fa (qF _ _ (by omega)) (fun b j z => qE _ _ (by omega))⟩
  rcases rx_c h with z | ⟨z1, z2, z3⟩
  · exact Or.inl ⟨(qR _ _ (by omega)).trans z.1, z.2⟩
  · have hmc := es_mc z2
    exact Or.inr ⟨z1, z2.gb hL hLc (fun j _ => qR _ _ (by omega)) (fun j => qR _ _ (by omega)) (qF _ _ (by omega)) (fun j => qF _ _ (by omega)) (fun b j u => qE _ _ (by omega)), z3.fr (qF _ _ (by omega)) (fun b j u => qE _ _ (by omega))⟩
theorem clT.yy (h : clT B a L R) (hL : ∀ b : Int, B ≤ b → b < B + 329 → L' b = L b) (hy : ∀ b j : Int, b < B + 329 → R' b j = R b j) : clT B a L' R' := (h.fL hL).fR (fun b j _ u _ _ _ => hy b j u)
theorem clM.yy (hT : clT B a L R) (hM : clM B a C tp fd tr fa pl D k M n H HN R F E) (hs : stW C tp fd tr D k M n H HN) (hy : ∀ b j : Int, b < B + 329 → R' b j = R b j ∧ F' b j = F b j ∧ E' b j = E b j) : clM B a C tp fd tr fa pl D k M n H HN R' F' E' := by
  have ca := cl_a hT
  have hW := sw_w hs
  have bn := sw_n hs
  have bk := sw_k hs
  have b4 := cw_4 hW
  have qR : ∀ b j : Int, b < B + 329 → R' b j = R b j := fun b j u => (hy b j u).1
  have qF : ∀ b j : Int, b < B + 329 → F' b j = F b j := fun b j u => (hy b j u).2.1
  have qE : ∀ b j : Int, b < B + 329 → E' b j = E b j := fun b j u => (hy b j u).2.2
  exact ⟨(cx_c hM).fa hW (fun b j u v => qF b j (by omega)) (fun b j u v => qE b j (by omega)), (qF _ _ (by omega)).trans (cx_1 hM), fun i u v => (qE _ _ (by omega)).trans (cx_t hM i u v), (qF _ _ (by omega)).trans (cx_15 hM), (qF _ _ (by omega)).trans (cx_17 hM), fun z => (qF _ _ (by omega)).trans (cx_16 hM z), fun o u v => (cx_w hM o u v).fa (fun j => qF _ _ (by omega)) (fun j => qE _ _ (by omega)), fun z => (qR _ _ (by omega)).trans (cx_f hM z), (qR _ _ (by omega)).trans (cx_d8 hM), (qR _ _ (by omega)).trans (cx_d9 hM), (qF _ _ (by omega)).trans (cx_d0 hM), (qF _ _ (by omega)).trans (cx_d1 hM), fun z => (cx_d hM z).fa (fun j => qF _ _ (by omega)) (fun b j u v => qE _ _ (by omega)), (qF _ _ (by omega)).trans (cx_11 hM), fun i u v => ⟨(qR _ _ (by omega)).trans (cx_m hM i u v).1, (qR _ _ (by omega)).trans (cx_m hM i u v).2.1, (cx_m hM i u v).2.2.fa (fun j => qF _ _ (by omega)) (fun b j u v => qE _ _ (by omega))⟩, (cx_a hM).fa bn.2 (qF _ _ (by omega)) (fun b j u v => qE _ _ (by omega)), ⟨(qF _ _ (by omega)).trans (cx_r hM).1, (qF _ _ (by omega)).trans (cx_r hM).2.1, (qF _ _ (by omega)).trans (cx_r hM).2.2.1, (qF _ _ (by omega)).trans (cx_r hM).2.2.2⟩⟩
def JS (B : Int) (L : Int → Int) (R F E : Int → Int → Int) (N : Nat) : Prop := ∃ (a c : Int) (C : Cy) (tp : Int → Int) (fd tr fa pl : Int) (D : Int → Int → Int) (k : Int) (M : Int → Int → Int → Int) (n : Int) (H : Int → Int → Int → Int) (HN : Int → Int), clT B a L R ∧ clM B a C tp fd tr fa pl D k M n H HN R F E ∧ rfM (B + 329) c C tp fd tr fa pl D k M n H HN L R F E ∧ stW C tp fd tr D k M n H HN ∧ B + 345 < (N : Int) ∧ c + 23 ≤ (N : Int) ∧ L (B + 345) = 1
theorem qX.fx (h : qX B a t R R' F F' E E') : ∀ b j : Int, B + 329 ≤ b → R' b j = R b j ∧ F' b j = F b j ∧ E' b j = E b j := fun b j u => ⟨h.2.1 b j (by omega), h.2.2.2.1 b j (by omega) (by omega) (by omega) (by omega), h.2.2.2.2.2 b j (by omega) (by omega) (by omega)⟩
theorem fX.fx (h : fX B R R' F F' E E') : ∀ b j : Int, B + 329 ≤ b → R' b j = R b j ∧ F' b j = F b j ∧ E' b j = E b j := fun b j u => h b j (Or.inr u)
theorem qM.fm (h : qM (B + 329) t w F F' E E') : ∀ b j : Int, b < B + 329 → R b j = R b j ∧ F' b j = F b j ∧ E' b j = E b j := fun b j u => ⟨rfl, h.2.1 b j (by omega), h.2.2.2.2.2 b j (by omega) (by omega) (by omega)⟩
theorem fM.fm (h : fM (B + 329) R R' F F' E E') : ∀ b j : Int, b < B + 329 → R' b j = R b j ∧ F' b j = F b j ∧ E' b j = E b j := fun b j u => h b j (Or.inl u)
theorem rfM.fx (h : rfM m c C tp fd tr fa pl D k M n H HN L R F E) (hx : ∀ b j : Int, m ≤ b → R' b j = R b j ∧ F' b j = F b j ∧ E' b j = E b j) : rfM m c C tp fd tr fa pl D k M n H HN L R' F' E' := h.xx (fun _ _ _ => rfl) (fun _ _ _ => rfl) hx
theorem JS.q (hT : clT B a L R) (hM : clM B a C tp fd tr fa pl D k M n H HN R F E) (hR : rfM (B + 329) c C tp fd tr fa pl D k M n H HN L R F E) (hs : stW C tp fd tr D k M n H HN) (hN : B + 345 < (N : Int)) (hc : c + 23 ≤ (N : Int)) (hL : L (B + 345) = 1) (hq : qX B a t R R1 F F1 E E1) (hq2 : qM (B + 329) t (-1) F1 F2 E1 E2) : JS B L R1 F2 E2 N := by
  have hs' : stW C tp fd t D k M n H HN := hs
  have hM1 := hM.q hT hs hq
  have hT1 := hT.q hq
  exact ⟨a, c, C, tp, fd, t, fa, pl, D, k, M, n, H, HN, hT1, clM.yy hT1 hM1 hs' (fun b j u => hq2.fm b j u), (hR.fx hq.fx).q hs hq2, hs', hN, hc, hL⟩
theorem JS.cc (hT1 : clT B a L R1) (hM1 : clM B a C tp fd tr fa pl D k M n H HN R1 F1 E1) (hs1 : stW C tp fd tr D k M n H HN) (hf : fM (B + 329) R1 R2 F1 F2 E1 E2) (hR2 : rfM (B + 329) c C tp fd tr fa pl D k M n H HN L' R2 F2 E2) (hLL : ∀ b : Int, B ≤ b → b < B + 346 → L' b = L b) (hN : B + 345 < (N : Int)) (hc : c + 23 ≤ (N : Int)) (hL : L (B + 345) = 1) : JS B L' R2 F2 E2 N := by
  exact ⟨a, c, C, tp, fd, tr, fa, pl, D, k, M, n, H, HN, hT1.yy (fun b u v => hLL b u (by omega)) (fun b j u => (hf.fm b j u).1), clM.yy hT1 hM1 hs1 hf.fm, hR2, hs1, hN, hc, (hLL _ (by have := cl_p hT1; omega) (by omega)).trans hL⟩
theorem JS.nn (h : JS B L R F E N) (hN : N ≤ N') : JS B L R F E N' := by
  obtain ⟨a, c, C, tp, fd, tr, fa, pl, D, k, M, n, H, HN, h1, h2, h3, h4, h5, h6, h7⟩ := h
  exact ⟨a, c, C, tp, fd, tr, fa, pl, D, k, M, n, H, HN, h1, h2, h3, h4, by omega, by omega, h7⟩
theorem rfM.ox (h : rfM (B + 329) c C tp fd tr fa pl D k M n H HN L R F E) (hE : ∀ b j : Int, b ≠ B + 345 → E' b j = E b j) : rfM (B + 329) c C tp fd tr fa pl D k M n H HN L R F E' := by
  refine ⟨rx_t h, rx_6 h, fun i u v => (hE _ _ (by omega)).trans (rx_tp h i u v), rx_13 h, rx_1 h, rx_2 h, ?_, rx_39 h, fun i u v => (rx_k h i u v).fa (fun j => hE _ _ (by omega)), (rx_a h).fa rfl (fun b j z => hE _ _ (by omega))⟩
  rcases rx_c h with z | ⟨z1, z2, z3⟩
  · exact Or.inl z
  · have hmc := es_mc z2
    exact Or.inr ⟨z1, z2.gb (fun _ _ _ => rfl) (fun _ _ _ => rfl) (fun j _ => rfl) (fun j => rfl) rfl (fun j => rfl) (fun b j u => hE _ _ (by omega)), z3.fr rfl (fun b j u => hE _ _ (by omega))⟩
/-- the law's out: one element, of no one else -/
theorem JS.o (h : JS B L R F E N) (hE : ∀ b j : Int, b ≠ B + 345 → E' b j = E b j) : JS B L R F E' N := by
  obtain ⟨a, c, C, tp, fd, tr, fa, pl, D, k, M, n, H, HN, h1, h2, h3, h4, h5, h6, h7⟩ := h
  refine ⟨a, c, C, tp, fd, tr, fa, pl, D, k, M, n, H, HN, h1, clM.yy h1 h2 h4 (fun b j u => ⟨rfl, rfl, hE b j (by omega)⟩), ?_, h4, h5, h6, h7⟩
  exact h3.ox hE
end BOTH

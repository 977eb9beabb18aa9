/-! ===== shapes stay where only other references change ===== -/
theorem thT.fR {t : Int} {L : Int → Int} {R R' : Int → Int → Int} (h : thT t L R) (hR : ∀ b j : Int, t ≤ b → b < t + 4 → R' b j = R b j) : thT t L R' := by
  unfold thT at *
  simp (disch := omega) only [hR]
  exact h
theorem ctT.fR {a : Int} {L : Int → Int} {R R' : Int → Int → Int} (h : ctT a L R) (hR : ∀ b j : Int, a ≤ b → b < a + 105 → R' b j = R b j) : ctT a L R' := by
  obtain ⟨p, r5, r6, r7, r8, r9, r10, r11, l1, l2, l14, l23, l30, l39, l40, gr, gl, cr, cl, sr, sl, orr, ol, wr, pr, tw, tp⟩ := h
  exact ⟨p, (hR _ _ (by omega) (by omega)).trans r5, (hR _ _ (by omega) (by omega)).trans r6, (hR _ _ (by omega) (by omega)).trans r7, (hR _ _ (by omega) (by omega)).trans r8, (hR _ _ (by omega) (by omega)).trans r9, (hR _ _ (by omega) (by omega)).trans r10, (hR _ _ (by omega) (by omega)).trans r11, l1, l2, l14, l23, l30, l39, l40, fun g x y => (hR _ _ (by omega) (by omega)).trans (gr g x y), gl, fun g x y => (hR _ _ (by omega) (by omega)).trans (cr g x y), cl, fun g x y => (hR _ _ (by omega) (by omega)).trans (sr g x y), sl, fun g x y => (hR _ _ (by omega) (by omega)).trans (orr g x y), ol, fun g x y => (hR _ _ (by omega) (by omega)).trans (wr g x y), fun g x y => (hR _ _ (by omega) (by omega)).trans (pr g x y), fun g x y => (tw g x y).fR (fun b j u v => hR b j (by omega) (by omega)), fun g x y => (tp g x y).fR (fun b j u v => hR b j (by omega) (by omega))⟩
theorem fnT.fR {f : Int} {L : Int → Int} {R R' : Int → Int → Int} (h : fnT f L R) (hR : ∀ j : Int, 3 ≤ j → R' f j = R f j) : fnT f L R' := by
  obtain ⟨p, r3, r4, r5, l1, l2, l3⟩ := h
  exact ⟨p, (hR _ (by omega)).trans r3, (hR _ (by omega)).trans r4, (hR _ (by omega)).trans r5, l1, l2, l3⟩
theorem wyT.fR {w : Int} {L : Int → Int} {R R' : Int → Int → Int} (h : wyT w L R) (hR : R' w 6 = R w 6) : wyT w L R' := ⟨h.1, hR.trans h.2.1, h.2.2⟩
theorem dyT.fR {d : Int} {L : Int → Int} {R R' : Int → Int → Int} (h : dyT d L R) (hR : ∀ b j : Int, d ≤ b → b < d + 2 → (b ≠ d ∨ j < 8) → R' b j = R b j) : dyT d L R' := ⟨dt_p h, (hR _ _ (by omega) (by omega) (by omega)).trans (dt_2 h), (hR _ _ (by omega) (by omega) (by omega)).trans (dt_3 h), (hR _ _ (by omega) (by omega) (by omega)).trans (dt_4 h), (hR _ _ (by omega) (by omega) (by omega)).trans (dt_5 h), (hR _ _ (by omega) (by omega) (by omega)).trans (dt_6 h), (hR _ _ (by omega) (by omega) (by omega)).trans (dt_7 h), dt_l1 h, dt_l12 h, dt_l13 h, dt_l14 h, dt_l15 h, dt_l16 h, fun w a b => (hR _ _ (by omega) (by omega) (by omega)).trans (dt_r h w a b), dt_lr h⟩
theorem tfT.fR {t : Int} {L : Int → Int} {R R' : Int → Int → Int} (h : tfT t L R) (hR : ∀ j : Int, R' t j = R t j) : tfT t L R' := by
  obtain ⟨p, r0, r1, r2, l1, l2, l3⟩ := h
  exact ⟨p, (hR _).trans r0, (hR _).trans r1, (hR _).trans r2, l1, l2, l3⟩
theorem acT.fR {A : Int} {L : Int → Int} {R R' : Int → Int → Int} (h : acT A L R) (hR : ∀ b j : Int, A ≤ b → b < A + 2 → R' b j = R b j) : acT A L R' := by
  obtain ⟨p, r1, l1, gr, lr⟩ := h
  exact ⟨p, (hR _ _ (by omega) (by omega)).trans r1, l1, fun i x y => (hR _ _ (by omega) (by omega)).trans (gr i x y), lr⟩

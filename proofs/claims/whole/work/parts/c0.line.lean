/-! ===== a line, a text; the class reads a text ===== -/
section LINE
variable {tp nm go : Int → Int} {n i j : Int} {C : Cy}
theorem tk_gt {tp : Int → Int} {n i : Int} : i < tkn tp n i := by
  by_cases h : i < n
  · exact (tkn_b h).1
  · unfold tkn nxt
    rw [if_neg (by omega), if_neg (by omega)]
    have := run_ge (p := isS tp) (n := n) (i := i + 1)
    unfold skp
    omega
theorem lin_ge : ∀ (l : List (Int → Int)) (i : Int), i ≤ (lin tp n l i).2 := by
  intro l
  induction l with
  | nil => exact fun i => Int.le_refl _
  | cons p l ih =>
    intro i
    by_cases c : p i = 0
    · rw [lin_0 c]
      have := ih (tkn tp n i)
      have := tk_gt (tp := tp) (n := n) (i := i)
      omega
    · rw [lin_1 c]
      exact Int.le_refl _
theorem rg_ge : ∀ (f : Nat) (c w j : Int), j ≤ (rgF tp n f c w j).2.1 := by
  intro f
  induction f with
  | zero => exact fun c w j => Int.le_refl _
  | succ f ih =>
    intro c w j
    have a := tk_gt (tp := tp) (n := n) (i := j)
    have b := tk_gt (tp := tp) (n := n) (i := tkn tp n j)
    unfold rgF
    by_cases z : fW tp n 1 w j = 0
    · rw [if_pos z]
      by_cases z2 : kdt tp n (tkn tp n j) = 4
      · rw [if_pos z2]
        have := ih (c + 1) (nmt tp n j) (tkn tp n (tkn tp n j))
        omega
      · rw [if_neg z2]
        show j ≤ tkn tp n j
        omega
    · rw [if_neg z]
      exact Int.le_refl _
theorem gkO_ge {s : Int} : j ≤ gkO tp n s j := by
  have a := tk_gt (tp := tp) (n := n) (i := j)
  unfold gkO
  by_cases z : iw tp n s j = 1
  · rw [if_pos z]; omega
  · rw [if_neg z]; omega
theorem gk3_ge : j ≤ gk3 tp n j := by
  have a := tk_gt (tp := tp) (n := n) (i := j)
  have b := tk_gt (tp := tp) (n := n) (i := tkn tp n j)
  have c : j ≤ gk1 tp n j := by
    unfold gk1
    by_cases z : iw tp n 6 j = 1
    · rw [if_pos z]; omega
    · rw [if_neg z]; omega
  have d := gkO_ge (tp := tp) (n := n) (s := 7) (j := gk1 tp n j)
  have e := gkO_ge (tp := tp) (n := n) (s := 8) (j := gk2 tp n j)
  unfold gk3
  unfold gk2 at e ⊢
  omega
theorem goodM_ge : i ≤ (goodM tp n C nm i).2 := by
  have a := lin_ge (tp := tp) (n := n) (goodL tp n C nm) i
  have b := tk_gt (tp := tp) (n := n) (i := (lin tp n (goodL tp n C nm) i).2)
  have c := gk3_ge (tp := tp) (n := n) (j := (lin tp n (goodL tp n C nm) i).2)
  unfold goodM
  by_cases z : (lin tp n (goodL tp n C nm) i).1 ≠ 0
  · rw [if_pos z]; exact a
  · rw [if_neg z]
    by_cases z2 : gkF tp n (lin tp n (goodL tp n C nm) i).2 ≠ 0
    · rw [if_pos z2]
      show i ≤ tkn tp n _
      omega
    · rw [if_neg z2]
      show i ≤ gk3 tp n _
      omega
theorem ringM_ge : i ≤ (ringM tp n C i).2 := by
  unfold ringM
  by_cases z : C 0 0 0 = 0
  · rw [if_pos z]
    have a := rg_ge (tp := tp) (n := n) 6 0 99 (tkn tp n i)
    have b := tk_gt (tp := tp) (n := n) (i := i)
    show i ≤ (rgF tp n 6 0 99 (tkn tp n i)).2.1
    omega
  · rw [if_neg z]
    exact Int.le_refl _
theorem psW_gate (hW : psW C nm go) (h : (lin tp n (gateL tp n C nm) i).1 = 0) : psW (adC C 2 (C 0 1 0) 1 (gateR tp n C nm i)) (us nm (kN C) (wdt tp n (tkn tp n i))) (us go (kN C) (-1)) := by
  unfold gateL at h
  obtain ⟨z0, h⟩ := lin_z h
  obtain ⟨z1, h⟩ := lin_z h
  obtain ⟨z2, h⟩ := lin_z h
  obtain ⟨z3, h⟩ := lin_z h
  obtain ⟨z4, h⟩ := lin_z h
  obtain ⟨z5, h⟩ := lin_z h
  obtain ⟨z6, h⟩ := lin_z h
  obtain ⟨z7, h⟩ := lin_z h
  obtain ⟨z8, h⟩ := lin_z h
  obtain ⟨z9, h⟩ := lin_z h
  obtain ⟨z10, h⟩ := lin_z h
  obtain ⟨z11, h⟩ := lin_z h
  obtain ⟨z12, h⟩ := lin_z h
  obtain ⟨z13, h⟩ := lin_z h
  obtain ⟨m1, m2⟩ := fBg_z z0
  have v3 := (fW_z z3).2
  have v5 := (fW_z z5).2
  have v7 := (fW_z z7).2
  have v9 := (fW_z z9).2
  have v11 := (fW_z z11).2
  have v13 := (fW_z z13).2
  refine psW_ad2 hW (ctW_ad2 (pw_w hW) m1 ?_ ?_ ?_ ?_ ?_ ?_ (Or.inl rfl)) m2
  · show 0 ≤ nmt tp n (tkn tp n (tkn tp n (tkn tp n i))) ∧ nmt tp n (tkn tp n (tkn tp n (tkn tp n i))) + 1 < C 0 0 0
    omega
  · show 0 ≤ nmt tp n (tkn tp n (tkn tp n (tkn tp n (tkn tp n (tkn tp n i))))) ∧ nmt tp n (tkn tp n (tkn tp n (tkn tp n (tkn tp n (tkn tp n i))))) < 12
    omega
  · exact v7
  · exact v9
  · exact v11
  · exact v13
theorem psW_cart (hW : psW C nm go) (h : (lin tp n (cartL tp n C nm) i).1 = 0) : psW (adC C 3 (C 0 2 0) 2 (cartR tp n C nm i)) (us nm (kN C) (wdt tp n (tkn tp n i))) (us go (kN C) (-1)) := by
  unfold cartL at h
  obtain ⟨z0, h⟩ := lin_z h
  obtain ⟨z1, h⟩ := lin_z h
  obtain ⟨z2, h⟩ := lin_z h
  obtain ⟨z3, h⟩ := lin_z h
  obtain ⟨z4, h⟩ := lin_z h
  obtain ⟨z5, h⟩ := lin_z h
  obtain ⟨m1, m2⟩ := fBg_z z0
  have v3 := (fW_z z3).2
  have v5 := (fW_z z5).2
  refine psW_ad3 hW (ctW_ad3 (pw_w hW) m1 ?_ ?_) m2
  · show 0 ≤ nmt tp n (tkn tp n (tkn tp n (tkn tp n i))) ∧ nmt tp n (tkn tp n (tkn tp n (tkn tp n i))) < C 0 0 0
    omega
  · exact v5
theorem psW_store (hW : psW C nm go) (h : (lin tp n (storeL tp n C) i).1 = 0) : psW (adC C 4 (nmt tp n (tkn tp n i)) 9 (storeR tp n i)) nm go := by
  unfold storeL at h
  obtain ⟨z0, h⟩ := lin_z h
  obtain ⟨z1, h⟩ := lin_z h
  obtain ⟨z2, h⟩ := lin_z h
  obtain ⟨z3, h⟩ := lin_z h
  obtain ⟨z4, h⟩ := lin_z h
  obtain ⟨z5, h⟩ := lin_z h
  have v3 := (fW_z z3).2
  have v5 := (fW_z z5).2
  exact psW_ad4 hW (ctW_ad4 (pw_w hW) v3 v5) (Or.inr rfl) v3 v5
theorem psW_order (hW : psW C nm go) (h : (lin tp n (orderL tp n C nm go) i).1 = 0) : psW (adC C 5 (C 0 4 0) 4 (orderR tp n C nm go i)) (us nm (kN C) (wdt tp n (tkn tp n i))) (us go (kN C) (-1)) := by
  unfold orderL at h
  obtain ⟨z0, h⟩ := lin_z h
  obtain ⟨z1, h⟩ := lin_z h
  obtain ⟨z2, h⟩ := lin_z h
  obtain ⟨z3, h⟩ := lin_z h
  obtain ⟨z4, h⟩ := lin_z h
  obtain ⟨z5, h⟩ := lin_z h
  obtain ⟨z6, h⟩ := lin_z h
  obtain ⟨z7, h⟩ := lin_z h
  obtain ⟨z8, h⟩ := lin_z h
  obtain ⟨z9, h⟩ := lin_z h
  obtain ⟨z10, h⟩ := lin_z h
  obtain ⟨z11, h⟩ := lin_z h
  obtain ⟨z12, h⟩ := lin_z h
  obtain ⟨z13, h⟩ := lin_z h
  obtain ⟨m1, m2⟩ := fBg_z z0
  obtain ⟨g1, g2, g3⟩ := fGd_z z3
  have wW := pw_w hW
  have b1 := cw_1 wW
  have b2 := cw_2 wW
  have b3 := cw_3 wW
  have b4 := cw_4 wW
  have kd : kN C = C 0 1 0 + C 0 2 0 + C 0 3 0 + C 0 4 0 := rfl
  have v5 := (fW_z z5).2
  have v7 := (fW_z z7).2
  have v9 := (fW_z z9).2
  have v11 := (fW_z z11).2
  have v13 := (fW_z z13).2
  clear g1 z0 z1 z2 z3 z4 z5 z6 z7 z8 z9 z10 z11 z12 z13
  have gb : 0 ≤ go (fdn nm (kN C) (wdt tp n (tkn tp n (tkn tp n (tkn tp n i))))) ∧ go (fdn nm (kN C) (wdt tp n (tkn tp n (tkn tp n (tkn tp n i))))) < C 0 3 0 := by
    rcases fdn_b (nm := nm) (k := kN C) (w := wdt tp n (tkn tp n (tkn tp n (tkn tp n i)))) (by omega) with y | y
    · exact absurd y g2
    · rcases pw_g hW _ y.1 y.2.1 with u | u
      · exact absurd u g3
      · exact u
  refine psW_ad5 hW (ctW_ad5 (pw_w hW) m1 gb ?_ ?_ ?_ ?_ ?_) m2
  · show 0 ≤ nmt tp n (tkn tp n (tkn tp n (tkn tp n (tkn tp n (tkn tp n i))))) ∧ nmt tp n (tkn tp n (tkn tp n (tkn tp n (tkn tp n (tkn tp n i))))) < C 0 0 0
    omega
  · show 0 ≤ nmt tp n (tkn tp n (tkn tp n (tkn tp n (tkn tp n (tkn tp n (tkn tp n (tkn tp n i))))))) ∧ nmt tp n (tkn tp n (tkn tp n (tkn tp n (tkn tp n (tkn tp n (tkn tp n (tkn tp n i))))))) < 12
    omega
  · show 0 ≤ nmt tp n (tkn tp n (tkn tp n (tkn tp n (tkn tp n (tkn tp n (tkn tp n (tkn tp n (tkn tp n (tkn tp n i))))))))) ∧ nmt tp n (tkn tp n (tkn tp n (tkn tp n (tkn tp n (tkn tp n (tkn tp n (tkn tp n (tkn tp n (tkn tp n i))))))))) < C 0 0 0
    omega
  · show 0 ≤ nmt tp n (tkn tp n (tkn tp n (tkn tp n (tkn tp n (tkn tp n (tkn tp n (tkn tp n (tkn tp n (tkn tp n (tkn tp n (tkn tp n i))))))))))) ∧ nmt tp n (tkn tp n (tkn tp n (tkn tp n (tkn tp n (tkn tp n (tkn tp n (tkn tp n (tkn tp n (tkn tp n (tkn tp n (tkn tp n i))))))))))) < 12
    omega
  · show 0 ≤ nmt tp n (tkn tp n (tkn tp n (tkn tp n (tkn tp n (tkn tp n (tkn tp n (tkn tp n (tkn tp n (tkn tp n (tkn tp n (tkn tp n (tkn tp n (tkn tp n i))))))))))))) ∧ nmt tp n (tkn tp n (tkn tp n (tkn tp n (tkn tp n (tkn tp n (tkn tp n (tkn tp n (tkn tp n (tkn tp n (tkn tp n (tkn tp n (tkn tp n (tkn tp n i))))))))))))) < 24
    omega
theorem lin_p10 (h : (lin tp n (goodL tp n C nm) i).1 = 0) : (lin tp n (goodL tp n C nm) i).2 = (tkn tp n (tkn tp n (tkn tp n (tkn tp n (tkn tp n (tkn tp n (tkn tp n (tkn tp n (tkn tp n (tkn tp n i)))))))))) := by
  have h' := h
  unfold goodL at h'
  obtain ⟨z0, h'⟩ := lin_z h'
  obtain ⟨z1, h'⟩ := lin_z h'
  obtain ⟨z2, h'⟩ := lin_z h'
  obtain ⟨z3, h'⟩ := lin_z h'
  obtain ⟨z4, h'⟩ := lin_z h'
  obtain ⟨z5, h'⟩ := lin_z h'
  obtain ⟨z6, h'⟩ := lin_z h'
  obtain ⟨z7, h'⟩ := lin_z h'
  obtain ⟨z8, h'⟩ := lin_z h'
  obtain ⟨z9, h'⟩ := lin_z h'
  unfold goodL
  rw [lin_0 z0, lin_0 z1, lin_0 z2, lin_0 z3, lin_0 z4, lin_0 z5, lin_0 z6, lin_0 z7, lin_0 z8, lin_0 z9]
  rfl
theorem psW_good (hW : psW C nm go) (h : (goodM tp n C nm i).1 = 0) : psW (adC C 6 (C 0 3 0) 3 (goodR tp n i)) (us nm (kN C) (wdt tp n (tkn tp n i))) (us go (kN C) (C 0 3 0)) := by
  unfold goodM at h
  by_cases hl : (lin tp n (goodL tp n C nm) i).1 = 0
  · rw [if_neg (fun z => z hl), lin_p10 hl] at h
    have hg : gkF tp n (tkn tp n (tkn tp n (tkn tp n (tkn tp n (tkn tp n (tkn tp n (tkn tp n (tkn tp n (tkn tp n (tkn tp n i)))))))))) = 0 := by
      by_cases z : gkF tp n (tkn tp n (tkn tp n (tkn tp n (tkn tp n (tkn tp n (tkn tp n (tkn tp n (tkn tp n (tkn tp n (tkn tp n i)))))))))) = 0
      · exact z
      · rw [if_pos z] at h; exact absurd h z
    clear h
    unfold goodL at hl
    obtain ⟨z0, hl⟩ := lin_z hl
    obtain ⟨z1, hl⟩ := lin_z hl
    obtain ⟨z2, hl⟩ := lin_z hl
    obtain ⟨z3, hl⟩ := lin_z hl
    obtain ⟨z4, hl⟩ := lin_z hl
    obtain ⟨z5, hl⟩ := lin_z hl
    obtain ⟨z6, hl⟩ := lin_z hl
    obtain ⟨z7, hl⟩ := lin_z hl
    obtain ⟨z8, hl⟩ := lin_z hl
    obtain ⟨z9, hl⟩ := lin_z hl
    have m1 : C 0 3 0 < 8 := by
      unfold fBg at z0
      by_cases y : 8 ≤ C 0 3 0
      · rw [if_pos y] at z0; omega
      · omega
    have v3 := (fW_z z3).2
    have v5 := (fW_z z5).2
    have v7 := (fW_z z7).2
    have v9 := (fW_z z9).2
    refine psW_ad6 hW (ctW_ad6 (pw_w hW) m1 (fun w a b => ?_) ?_ iw_b iw_b)
    · have zz : w = 0 ∨ w = 1 ∨ w = 2 ∨ w = 3 := by omega
      rcases zz with rfl | rfl | rfl | rfl
      · exact v3
      · exact v5
      · exact v7
      · exact v9
    · show gkP tp n (tkn tp n (tkn tp n (tkn tp n (tkn tp n (tkn tp n (tkn tp n (tkn tp n (tkn tp n (tkn tp n (tkn tp n i)))))))))) = 0 ∨ (2 ≤ gkP tp n (tkn tp n (tkn tp n (tkn tp n (tkn tp n (tkn tp n (tkn tp n (tkn tp n (tkn tp n (tkn tp n (tkn tp n i)))))))))) ∧ gkP tp n (tkn tp n (tkn tp n (tkn tp n (tkn tp n (tkn tp n (tkn tp n (tkn tp n (tkn tp n (tkn tp n (tkn tp n i)))))))))) ≤ 9)
      unfold gkF at hg
      unfold gkP
      by_cases y : iw tp n 6 (tkn tp n (tkn tp n (tkn tp n (tkn tp n (tkn tp n (tkn tp n (tkn tp n (tkn tp n (tkn tp n (tkn tp n i)))))))))) = 1
      · rw [if_pos y] at hg ⊢
        exact Or.inr (fW_z hg).2
      · rw [if_neg y]
        exact Or.inl rfl
  · rw [if_pos hl] at h; exact absurd h hl
theorem psW_ring (hW : psW C nm go) (h : (ringM tp n C i).1 = 0) : psW (ringC tp n C i) nm go := by
  unfold ringM at h
  by_cases z : C 0 0 0 = 0
  · rw [if_pos z] at h
    obtain ⟨a, b, c, d⟩ := rgF_b (tp := tp) (n := n) (i := i) 6 0 99 (tkn tp n i) (by omega) (by omega) rfl h
    exact psW_rg hW z a (by omega) d
  · rw [if_neg z] at h
    exact absurd h (show (3 : Int) ≠ 0 by decide)
end LINE
def lnM (tp : Int → Int) (n : Int) (C : Cy) (nm go : Int → Int) (i : Int) : Int × Int := if iw tp n 0 i = 1 then ringM tp n C i else if iw tp n 1 i = 1 then lin tp n (gateL tp n C nm) i else if iw tp n 2 i = 1 then lin tp n (cartL tp n C nm) i else if iw tp n 3 i = 1 then lin tp n (storeL tp n C) i else if iw tp n 4 i = 1 then goodM tp n C nm i else if iw tp n 5 i = 1 then lin tp n (orderL tp n C nm go) i else (1, i)
def lnC (tp : Int → Int) (n : Int) (C : Cy) (nm go : Int → Int) (i : Int) : Cy := if iw tp n 0 i = 1 then ringC tp n C i else if iw tp n 1 i = 1 then adC C 2 (C 0 1 0) 1 (gateR tp n C nm i) else if iw tp n 2 i = 1 then adC C 3 (C 0 2 0) 2 (cartR tp n C nm i) else if iw tp n 3 i = 1 then adC C 4 (nmt tp n (tkn tp n i)) 9 (storeR tp n i) else if iw tp n 4 i = 1 then adC C 6 (C 0 3 0) 3 (goodR tp n i) else if iw tp n 5 i = 1 then adC C 5 (C 0 4 0) 4 (orderR tp n C nm go i) else C
def lnN (tp : Int → Int) (n : Int) (C : Cy) (nm go : Int → Int) (i : Int) : Int → Int := if iw tp n 0 i = 1 then nm else if iw tp n 1 i = 1 then (us nm (kN C) (wdt tp n (tkn tp n i))) else if iw tp n 2 i = 1 then (us nm (kN C) (wdt tp n (tkn tp n i))) else if iw tp n 3 i = 1 then nm else if iw tp n 4 i = 1 then (us nm (kN C) (wdt tp n (tkn tp n i))) else if iw tp n 5 i = 1 then (us nm (kN C) (wdt tp n (tkn tp n i))) else nm
def lnG (tp : Int → Int) (n : Int) (C : Cy) (nm go : Int → Int) (i : Int) : Int → Int := if iw tp n 0 i = 1 then go else if iw tp n 1 i = 1 then us go (kN C) (-1) else if iw tp n 2 i = 1 then us go (kN C) (-1) else if iw tp n 3 i = 1 then go else if iw tp n 4 i = 1 then us go (kN C) (C 0 3 0) else if iw tp n 5 i = 1 then us go (kN C) (-1) else go
theorem lnM_ge {tp nm go : Int → Int} {n i : Int} {C : Cy} : i ≤ (lnM tp n C nm go i).2 := by
  unfold lnM
  by_cases w0 : iw tp n 0 i = 1
  · simp only [if_pos w0] 
    exact ringM_ge
  by_cases w1 : iw tp n 1 i = 1
  · simp only [if_pos w1, if_neg w0] 
    exact lin_ge _ _
  by_cases w2 : iw tp n 2 i = 1
  · simp only [if_pos w2, if_neg w0, if_neg w1] 
    exact lin_ge _ _
  by_cases w3 : iw tp n 3 i = 1
  · simp only [if_pos w3, if_neg w0, if_neg w1, if_neg w2] 
    exact lin_ge _ _
  by_cases w4 : iw tp n 4 i = 1
  · simp only [if_pos w4, if_neg w0, if_neg w1, if_neg w2, if_neg w3] 
    exact goodM_ge
  by_cases w5 : iw tp n 5 i = 1
  · simp only [if_pos w5, if_neg w0, if_neg w1, if_neg w2, if_neg w3, if_neg w4] 
    exact lin_ge _ _
  simp only [if_neg w0, if_neg w1, if_neg w2, if_neg w3, if_neg w4, if_neg w5] 
  exact Int.le_refl _
theorem psW_ln {tp nm go : Int → Int} {n i : Int} {C : Cy} (hW : psW C nm go) (h : (lnM tp n C nm go i).1 = 0) : psW (lnC tp n C nm go i) (lnN tp n C nm go i) (lnG tp n C nm go i) := by
  unfold lnM at h
  unfold lnC lnN lnG
  by_cases w0 : iw tp n 0 i = 1
  · simp only [if_pos w0] at h ⊢
    exact psW_ring hW h
  by_cases w1 : iw tp n 1 i = 1
  · simp only [if_pos w1, if_neg w0] at h ⊢
    exact psW_gate hW h
  by_cases w2 : iw tp n 2 i = 1
  · simp only [if_pos w2, if_neg w0, if_neg w1] at h ⊢
    exact psW_cart hW h
  by_cases w3 : iw tp n 3 i = 1
  · simp only [if_pos w3, if_neg w0, if_neg w1, if_neg w2] at h ⊢
    exact psW_store hW h
  by_cases w4 : iw tp n 4 i = 1
  · simp only [if_pos w4, if_neg w0, if_neg w1, if_neg w2, if_neg w3] at h ⊢
    exact psW_good hW h
  by_cases w5 : iw tp n 5 i = 1
  · simp only [if_pos w5, if_neg w0, if_neg w1, if_neg w2, if_neg w3, if_neg w4] at h ⊢
    exact psW_order hW h
  simp only [if_neg w0, if_neg w1, if_neg w2, if_neg w3, if_neg w4, if_neg w5] at h ⊢
  exact absurd h (show (1 : Int) ≠ 0 by decide)
def prF (tp : Int → Int) (n : Int) : Nat → Cy → (Int → Int) → (Int → Int) → Int → (Int × Int) × Cy
  | 0, C, _, _, i => ((1, i), C)
  | f + 1, C, nm, go, i => if (lnM tp n C nm go i).1 = 0 then (if kdt tp n (lnM tp n C nm go i).2 = 0 then ((if lnC tp n C nm go i 0 0 0 = 0 then 6 else 0, (lnM tp n C nm go i).2), lnC tp n C nm go i) else if kdt tp n (lnM tp n C nm go i).2 = 3 then prF tp n f (lnC tp n C nm go i) (lnN tp n C nm go i) (lnG tp n C nm go i) (tkn tp n (lnM tp n C nm go i).2) else ((1, (lnM tp n C nm go i).2), C)) else (lnM tp n C nm go i, C)
def zC : Cy := fun _ _ _ => 0
def zf : Int → Int := fun _ => 0
def prs (tp : Int → Int) (n : Int) : (Int × Int) × Cy := prF tp n 901 zC zf zf (skp tp n 0)
section READX
variable {L : Int → Int} {R F F' E E' : Int → Int → Int} {N : Nat} {Q : xQ} {r q n i j s p a c k v w g t lo hi ro x : Int} {C : Cy} {tp nm go row : Int → Int} {c9 s9 : Nat}
theorem sX_readLine (hT : rdT r q L R) (n9 : n ≤ 900) (ht : ∀ i : Int, 0 ≤ i → i < n → E q i = tp i) (hM : rdM r tp n i F) (hc : ctT s L R) (h10 : R r 10 = s) (dis : s + 105 ≤ r ∨ r + 4 ≤ s) (qa : q < r ∨ r + 4 ≤ q) (qs : q < s ∨ s + 105 ≤ q) (hP : pxM r s C nm go F E) (hW : psW C nm go) (h1 : (lnM tp n C nm go i).1 = 0 → ∀ F' E' : Int → Int → Int, rdM r tp n (lnM tp n C nm go i).2 F' → pxM r s (lnC tp n C nm go i) (lnN tp n C nm go i) (lnG tp n C nm go i) F' E' → rfX r s F F' E E' → Q 1 (L, R, F', E', N)) (h0 : (lnM tp n C nm go i).1 ≠ 0 → ∀ F' E' : Int → Int → Int, F' r 9 = (lnM tp n C nm go i).1 → F' r 0 = (lnM tp n C nm go i).2 → rfX r s F F' E E' → Q 0 (L, R, F', E', N)) : T_X4_readLine [r] (L, R, F, E, N) Q := by
  have pr := rd_p hT
  have e3 := rm_3 hM
  have hcc := hc
  unfold lnM at h1 h0
  unfold lnC lnN lnG at h1
  simp (disch := omega) only [t_X4_readLine, ue_X4_readLine, zLg, zRf, zFq, zEl, zNz, zUf, zUe, zUr, zCe, zSn, gd_0, gd_1, gd_2, gd_3, gd_4, gd_5, gd_6, gd_7, gd_8, gd_9, gd_10, gd_11, gd_12, gd_13, gd_14, gd_15, gd_16, gd_17, gd_18, gd_19, se_0, se_1, se_2, se_3, se_4, se_5, se_6, se_7, se_8, se_9, se_10, se_11, se_12, se_13, se_14, se_15, se_16, se_17, se_18, se_19, e_const, e_load, e_store, e_iinc, e_dup, e_dup2, e_pop, e_iadd, e_isub, e_imul, e_ladd, e_lsub, e_lmul, e_iaddw, e_isubw, e_imulw, e_laddw, e_lsubw, e_lmulw, e_iand, e_ior, e_ishl, e_ishr, e_iushr, e_lcmp, e_imax, e_imin, e_idiv, e_irem, e_ldiv, e_lrem, e_i2l, e_i2b, e_l2i, e_i2c, e_getF, e_getR, e_putF, e_putR, e_putz, e_ald, e_aldR, e_ast, e_astb, e_astz, e_asta, e_len, e_acopy, e_new, e_newa, e_mna, e_this, e_room, e_call0, e_callv0, e_call1, e_callv1, e_inv1, e_invv1, e_call2, e_callv2, e_inv2, e_invv2, e_call3, e_callv3, e_inv3, e_invv3, e_call4, e_callv4, e_inv4, e_invv4, e_call5, e_callv5, e_inv5, e_invv5, e_call6, e_callv6, e_inv6, e_invv6, e_call7, e_callv7, e_inv7, e_invv7, e_call8, e_callv8, e_inv8, e_invv8, e_ret, e_retz, e_retc, e_retb, e_retv, e_skip, e_sco, e_tlen, e_tat, e_iz_eq0, e_iz_eq1, e_iz_ne0, e_iz_ne1, add0, sc_d, sc_t, inI_e, inL_e, up_eq, true_or, or_true, or_false, false_or, and_true, true_and, not_false_eq_true, Int.reduceAdd, Int.reduceSub, Int.reduceMul, Int.reduceNeg]
  refine sX_isWord hT n9 ht hM (by omega) (by omega) (fun z => ?_) (fun z => ?_)
  · have w0 := iw_1 z
    have zk : kdt tp n i ≠ 0 := by have := z.1; omega
    simp only [if_pos w0] at h1 h0
    try simp (disch := omega) only [zLg, zRf, zFq, zEl, zNz, zUf, zUe, zUr, zCe, zSn, gd_0, gd_1, gd_2, gd_3, gd_4, gd_5, gd_6, gd_7, gd_8, gd_9, gd_10, gd_11, gd_12, gd_13, gd_14, gd_15, gd_16, gd_17, gd_18, gd_19, se_0, se_1, se_2, se_3, se_4, se_5, se_6, se_7, se_8, se_9, se_10, se_11, se_12, se_13, se_14, se_15, se_16, se_17, se_18, se_19, e_const, e_load, e_store, e_iinc, e_dup, e_dup2, e_pop, e_iadd, e_isub, e_imul, e_ladd, e_lsub, e_lmul, e_iaddw, e_isubw, e_imulw, e_laddw, e_lsubw, e_lmulw, e_iand, e_ior, e_ishl, e_ishr, e_iushr, e_lcmp, e_imax, e_imin, e_idiv, e_irem, e_ldiv, e_lrem, e_i2l, e_i2b, e_l2i, e_i2c, e_getF, e_getR, e_putF, e_putR, e_putz, e_ald, e_aldR, e_ast, e_astb, e_astz, e_asta, e_len, e_acopy, e_new, e_newa, e_mna, e_this, e_room, e_call0, e_callv0, e_call1, e_callv1, e_inv1, e_invv1, e_call2, e_callv2, e_inv2, e_invv2, e_call3, e_callv3, e_inv3, e_invv3, e_call4, e_callv4, e_inv4, e_invv4, e_call5, e_callv5, e_inv5, e_invv5, e_call6, e_callv6, e_inv6, e_invv6, e_call7, e_callv7, e_inv7, e_invv7, e_call8, e_callv8, e_inv8, e_invv8, e_ret, e_retz, e_retc, e_retb, e_retv, e_skip, e_sco, e_tlen, e_tat, e_iz_eq0, e_iz_eq1, e_iz_ne0, e_iz_ne1, add0, sc_d, sc_t, inI_e, inL_e, up_eq, true_or, or_true, or_false, false_or, and_true, true_and, not_false_eq_true, Int.reduceAdd, Int.reduceSub, Int.reduceMul, Int.reduceNeg]
    refine sX_ringsLine hT n9 ht hM zk hcc h10 dis qa qs hP hW (fun y F' E' k1 k2 k3 => ?_) (fun y F' E' k1 k2 k3 => ?_)
    · have ok := h1 y F' E' k1 k2 k3
      clear h1 h0
      repeat' first
        | exact absurd hc (by decide)
        | simp (disch := omega) only [ub_X4_readLine_95, zLg, zRf, zFq, zEl, zNz, zUf, zUe, zUr, zCe, zSn, gd_0, gd_1, gd_2, gd_3, gd_4, gd_5, gd_6, gd_7, gd_8, gd_9, gd_10, gd_11, gd_12, gd_13, gd_14, gd_15, gd_16, gd_17, gd_18, gd_19, se_0, se_1, se_2, se_3, se_4, se_5, se_6, se_7, se_8, se_9, se_10, se_11, se_12, se_13, se_14, se_15, se_16, se_17, se_18, se_19, e_const, e_load, e_store, e_iinc, e_dup, e_dup2, e_pop, e_iadd, e_isub, e_imul, e_ladd, e_lsub, e_lmul, e_iaddw, e_isubw, e_imulw, e_laddw, e_lsubw, e_lmulw, e_iand, e_ior, e_ishl, e_ishr, e_iushr, e_lcmp, e_imax, e_imin, e_idiv, e_irem, e_ldiv, e_lrem, e_i2l, e_i2b, e_l2i, e_i2c, e_getF, e_getR, e_putF, e_putR, e_putz, e_ald, e_aldR, e_ast, e_astb, e_astz, e_asta, e_len, e_acopy, e_new, e_newa, e_mna, e_this, e_room, e_call0, e_callv0, e_call1, e_callv1, e_inv1, e_invv1, e_call2, e_callv2, e_inv2, e_invv2, e_call3, e_callv3, e_inv3, e_invv3, e_call4, e_callv4, e_inv4, e_invv4, e_call5, e_callv5, e_inv5, e_invv5, e_call6, e_callv6, e_inv6, e_invv6, e_call7, e_callv7, e_inv7, e_invv7, e_call8, e_callv8, e_inv8, e_invv8, e_ret, e_retz, e_retc, e_retb, e_retv, e_skip, e_sco, e_tlen, e_tat, e_iz_eq0, e_iz_eq1, e_iz_ne0, e_iz_ne1, add0, sc_d, sc_t, inI_e, inL_e, up_eq, true_or, or_true, or_false, false_or, and_true, true_and, not_false_eq_true, Int.reduceAdd, Int.reduceSub, Int.reduceMul, Int.reduceNeg]
        | with_reducible first | refine izl_lt (fun hc => ?_) (fun hc => ?_) | refine izl_ge (fun hc => ?_) (fun hc => ?_) | refine izl_eq (fun hc => ?_) (fun hc => ?_) | refine ic_ge (fun hc => ?_) (fun hc => ?_) | refine ic_lt (fun hc => ?_) (fun hc => ?_) | refine ic_ne (fun hc => ?_) (fun hc => ?_) | refine ic_eq (fun hc => ?_) (fun hc => ?_) | refine ic_le (fun hc => ?_) (fun hc => ?_) | refine ic_gt (fun hc => ?_) (fun hc => ?_) | refine iz_eq (fun hc => ?_) (fun hc => ?_) | refine iz_ne (fun hc => ?_) (fun hc => ?_) | refine iz_lt (fun hc => ?_) (fun hc => ?_) | refine iz_ge (fun hc => ?_) (fun hc => ?_) | refine iz_gt (fun hc => ?_) (fun hc => ?_) | refine iz_le (fun hc => ?_) (fun hc => ?_) | refine iz_nu (fun hc => ?_) (fun hc => ?_) | refine iz_nn (fun hc => ?_) (fun hc => ?_)
        | omega
        | (exfalso; omega)
      all_goals exact ok
    · have ok := h0 y F' E' k1 k2 k3
      clear h1 h0
      repeat' first
        | exact absurd hc (by decide)
        | simp (disch := omega) only [ub_X4_readLine_95, zLg, zRf, zFq, zEl, zNz, zUf, zUe, zUr, zCe, zSn, gd_0, gd_1, gd_2, gd_3, gd_4, gd_5, gd_6, gd_7, gd_8, gd_9, gd_10, gd_11, gd_12, gd_13, gd_14, gd_15, gd_16, gd_17, gd_18, gd_19, se_0, se_1, se_2, se_3, se_4, se_5, se_6, se_7, se_8, se_9, se_10, se_11, se_12, se_13, se_14, se_15, se_16, se_17, se_18, se_19, e_const, e_load, e_store, e_iinc, e_dup, e_dup2, e_pop, e_iadd, e_isub, e_imul, e_ladd, e_lsub, e_lmul, e_iaddw, e_isubw, e_imulw, e_laddw, e_lsubw, e_lmulw, e_iand, e_ior, e_ishl, e_ishr, e_iushr, e_lcmp, e_imax, e_imin, e_idiv, e_irem, e_ldiv, e_lrem, e_i2l, e_i2b, e_l2i, e_i2c, e_getF, e_getR, e_putF, e_putR, e_putz, e_ald, e_aldR, e_ast, e_astb, e_astz, e_asta, e_len, e_acopy, e_new, e_newa, e_mna, e_this, e_room, e_call0, e_callv0, e_call1, e_callv1, e_inv1, e_invv1, e_call2, e_callv2, e_inv2, e_invv2, e_call3, e_callv3, e_inv3, e_invv3, e_call4, e_callv4, e_inv4, e_invv4, e_call5, e_callv5, e_inv5, e_invv5, e_call6, e_callv6, e_inv6, e_invv6, e_call7, e_callv7, e_inv7, e_invv7, e_call8, e_callv8, e_inv8, e_invv8, e_ret, e_retz, e_retc, e_retb, e_retv, e_skip, e_sco, e_tlen, e_tat, e_iz_eq0, e_iz_eq1, e_iz_ne0, e_iz_ne1, add0, sc_d, sc_t, inI_e, inL_e, up_eq, true_or, or_true, or_false, false_or, and_true, true_and, not_false_eq_true, Int.reduceAdd, Int.reduceSub, Int.reduceMul, Int.reduceNeg]
        | with_reducible first | refine izl_lt (fun hc => ?_) (fun hc => ?_) | refine izl_ge (fun hc => ?_) (fun hc => ?_) | refine izl_eq (fun hc => ?_) (fun hc => ?_) | refine ic_ge (fun hc => ?_) (fun hc => ?_) | refine ic_lt (fun hc => ?_) (fun hc => ?_) | refine ic_ne (fun hc => ?_) (fun hc => ?_) | refine ic_eq (fun hc => ?_) (fun hc => ?_) | refine ic_le (fun hc => ?_) (fun hc => ?_) | refine ic_gt (fun hc => ?_) (fun hc => ?_) | refine iz_eq (fun hc => ?_) (fun hc => ?_) | refine iz_ne (fun hc => ?_) (fun hc => ?_) | refine iz_lt (fun hc => ?_) (fun hc => ?_) | refine iz_ge (fun hc => ?_) (fun hc => ?_) | refine iz_gt (fun hc => ?_) (fun hc => ?_) | refine iz_le (fun hc => ?_) (fun hc => ?_) | refine iz_nu (fun hc => ?_) (fun hc => ?_) | refine iz_nn (fun hc => ?_) (fun hc => ?_)
        | omega
        | (exfalso; omega)
      all_goals exact ok
  have w0 : ¬ iw tp n 0 i = 1 := by rw [iw_0 z]; decide
  clear z
  simp (disch := omega) only [zLg, zRf, zFq, zEl, zNz, zUf, zUe, zUr, zCe, zSn, gd_0, gd_1, gd_2, gd_3, gd_4, gd_5, gd_6, gd_7, gd_8, gd_9, gd_10, gd_11, gd_12, gd_13, gd_14, gd_15, gd_16, gd_17, gd_18, gd_19, se_0, se_1, se_2, se_3, se_4, se_5, se_6, se_7, se_8, se_9, se_10, se_11, se_12, se_13, se_14, se_15, se_16, se_17, se_18, se_19, e_const, e_load, e_store, e_iinc, e_dup, e_dup2, e_pop, e_iadd, e_isub, e_imul, e_ladd, e_lsub, e_lmul, e_iaddw, e_isubw, e_imulw, e_laddw, e_lsubw, e_lmulw, e_iand, e_ior, e_ishl, e_ishr, e_iushr, e_lcmp, e_imax, e_imin, e_idiv, e_irem, e_ldiv, e_lrem, e_i2l, e_i2b, e_l2i, e_i2c, e_getF, e_getR, e_putF, e_putR, e_putz, e_ald, e_aldR, e_ast, e_astb, e_astz, e_asta, e_len, e_acopy, e_new, e_newa, e_mna, e_this, e_room, e_call0, e_callv0, e_call1, e_callv1, e_inv1, e_invv1, e_call2, e_callv2, e_inv2, e_invv2, e_call3, e_callv3, e_inv3, e_invv3, e_call4, e_callv4, e_inv4, e_invv4, e_call5, e_callv5, e_inv5, e_invv5, e_call6, e_callv6, e_inv6, e_invv6, e_call7, e_callv7, e_inv7, e_invv7, e_call8, e_callv8, e_inv8, e_invv8, e_ret, e_retz, e_retc, e_retb, e_retv, e_skip, e_sco, e_tlen, e_tat, e_iz_eq0, e_iz_eq1, e_iz_ne0, e_iz_ne1, add0, sc_d, sc_t, inI_e, inL_e, up_eq, true_or, or_true, or_false, false_or, and_true, true_and, not_false_eq_true, Int.reduceAdd, Int.reduceSub, Int.reduceMul, Int.reduceNeg]
  refine sX_isWord hT n9 ht hM (by omega) (by omega) (fun z => ?_) (fun z => ?_)
  · have w1 := iw_1 z
    have zk : kdt tp n i ≠ 0 := by have := z.1; omega
    simp only [if_neg w0, if_pos w1] at h1 h0
    try simp (disch := omega) only [zLg, zRf, zFq, zEl, zNz, zUf, zUe, zUr, zCe, zSn, gd_0, gd_1, gd_2, gd_3, gd_4, gd_5, gd_6, gd_7, gd_8, gd_9, gd_10, gd_11, gd_12, gd_13, gd_14, gd_15, gd_16, gd_17, gd_18, gd_19, se_0, se_1, se_2, se_3, se_4, se_5, se_6, se_7, se_8, se_9, se_10, se_11, se_12, se_13, se_14, se_15, se_16, se_17, se_18, se_19, e_const, e_load, e_store, e_iinc, e_dup, e_dup2, e_pop, e_iadd, e_isub, e_imul, e_ladd, e_lsub, e_lmul, e_iaddw, e_isubw, e_imulw, e_laddw, e_lsubw, e_lmulw, e_iand, e_ior, e_ishl, e_ishr, e_iushr, e_lcmp, e_imax, e_imin, e_idiv, e_irem, e_ldiv, e_lrem, e_i2l, e_i2b, e_l2i, e_i2c, e_getF, e_getR, e_putF, e_putR, e_putz, e_ald, e_aldR, e_ast, e_astb, e_astz, e_asta, e_len, e_acopy, e_new, e_newa, e_mna, e_this, e_room, e_call0, e_callv0, e_call1, e_callv1, e_inv1, e_invv1, e_call2, e_callv2, e_inv2, e_invv2, e_call3, e_callv3, e_inv3, e_invv3, e_call4, e_callv4, e_inv4, e_invv4, e_call5, e_callv5, e_inv5, e_invv5, e_call6, e_callv6, e_inv6, e_invv6, e_call7, e_callv7, e_inv7, e_invv7, e_call8, e_callv8, e_inv8, e_invv8, e_ret, e_retz, e_retc, e_retb, e_retv, e_skip, e_sco, e_tlen, e_tat, e_iz_eq0, e_iz_eq1, e_iz_ne0, e_iz_ne1, add0, sc_d, sc_t, inI_e, inL_e, up_eq, true_or, or_true, or_false, false_or, and_true, true_and, not_false_eq_true, Int.reduceAdd, Int.reduceSub, Int.reduceMul, Int.reduceNeg]
    refine sX_gateLine hT n9 ht hM zk hcc h10 dis qa qs hP hW (fun y F' E' k1 k2 k3 => ?_) (fun y F' E' k1 k2 k3 => ?_)
    · have ok := h1 y F' E' k1 k2 k3
      clear h1 h0
      repeat' first
        | exact absurd hc (by decide)
        | simp (disch := omega) only [ub_X4_readLine_95, zLg, zRf, zFq, zEl, zNz, zUf, zUe, zUr, zCe, zSn, gd_0, gd_1, gd_2, gd_3, gd_4, gd_5, gd_6, gd_7, gd_8, gd_9, gd_10, gd_11, gd_12, gd_13, gd_14, gd_15, gd_16, gd_17, gd_18, gd_19, se_0, se_1, se_2, se_3, se_4, se_5, se_6, se_7, se_8, se_9, se_10, se_11, se_12, se_13, se_14, se_15, se_16, se_17, se_18, se_19, e_const, e_load, e_store, e_iinc, e_dup, e_dup2, e_pop, e_iadd, e_isub, e_imul, e_ladd, e_lsub, e_lmul, e_iaddw, e_isubw, e_imulw, e_laddw, e_lsubw, e_lmulw, e_iand, e_ior, e_ishl, e_ishr, e_iushr, e_lcmp, e_imax, e_imin, e_idiv, e_irem, e_ldiv, e_lrem, e_i2l, e_i2b, e_l2i, e_i2c, e_getF, e_getR, e_putF, e_putR, e_putz, e_ald, e_aldR, e_ast, e_astb, e_astz, e_asta, e_len, e_acopy, e_new, e_newa, e_mna, e_this, e_room, e_call0, e_callv0, e_call1, e_callv1, e_inv1, e_invv1, e_call2, e_callv2, e_inv2, e_invv2, e_call3, e_callv3, e_inv3, e_invv3, e_call4, e_callv4, e_inv4, e_invv4, e_call5, e_callv5, e_inv5, e_invv5, e_call6, e_callv6, e_inv6, e_invv6, e_call7, e_callv7, e_inv7, e_invv7, e_call8, e_callv8, e_inv8, e_invv8, e_ret, e_retz, e_retc, e_retb, e_retv, e_skip, e_sco, e_tlen, e_tat, e_iz_eq0, e_iz_eq1, e_iz_ne0, e_iz_ne1, add0, sc_d, sc_t, inI_e, inL_e, up_eq, true_or, or_true, or_false, false_or, and_true, true_and, not_false_eq_true, Int.reduceAdd, Int.reduceSub, Int.reduceMul, Int.reduceNeg]
        | with_reducible first | refine izl_lt (fun hc => ?_) (fun hc => ?_) | refine izl_ge (fun hc => ?_) (fun hc => ?_) | refine izl_eq (fun hc => ?_) (fun hc => ?_) | refine ic_ge (fun hc => ?_) (fun hc => ?_) | refine ic_lt (fun hc => ?_) (fun hc => ?_) | refine ic_ne (fun hc => ?_) (fun hc => ?_) | refine ic_eq (fun hc => ?_) (fun hc => ?_) | refine ic_le (fun hc => ?_) (fun hc => ?_) | refine ic_gt (fun hc => ?_) (fun hc => ?_) | refine iz_eq (fun hc => ?_) (fun hc => ?_) | refine iz_ne (fun hc => ?_) (fun hc => ?_) | refine iz_lt (fun hc => ?_) (fun hc => ?_) | refine iz_ge (fun hc => ?_) (fun hc => ?_) | refine iz_gt (fun hc => ?_) (fun hc => ?_) | refine iz_le (fun hc => ?_) (fun hc => ?_) | refine iz_nu (fun hc => ?_) (fun hc => ?_) | refine iz_nn (fun hc => ?_) (fun hc => ?_)
        | omega
        | (exfalso; omega)
      all_goals exact ok
    · have ok := h0 y F' E' k1 k2 k3
      clear h1 h0
      repeat' first
        | exact absurd hc (by decide)
        | simp (disch := omega) only [ub_X4_readLine_95, zLg, zRf, zFq, zEl, zNz, zUf, zUe, zUr, zCe, zSn, gd_0, gd_1, gd_2, gd_3, gd_4, gd_5, gd_6, gd_7, gd_8, gd_9, gd_10, gd_11, gd_12, gd_13, gd_14, gd_15, gd_16, gd_17, gd_18, gd_19, se_0, se_1, se_2, se_3, se_4, se_5, se_6, se_7, se_8, se_9, se_10, se_11, se_12, se_13, se_14, se_15, se_16, se_17, se_18, se_19, e_const, e_load, e_store, e_iinc, e_dup, e_dup2, e_pop, e_iadd, e_isub, e_imul, e_ladd, e_lsub, e_lmul, e_iaddw, e_isubw, e_imulw, e_laddw, e_lsubw, e_lmulw, e_iand, e_ior, e_ishl, e_ishr, e_iushr, e_lcmp, e_imax, e_imin, e_idiv, e_irem, e_ldiv, e_lrem, e_i2l, e_i2b, e_l2i, e_i2c, e_getF, e_getR, e_putF, e_putR, e_putz, e_ald, e_aldR, e_ast, e_astb, e_astz, e_asta, e_len, e_acopy, e_new, e_newa, e_mna, e_this, e_room, e_call0, e_callv0, e_call1, e_callv1, e_inv1, e_invv1, e_call2, e_callv2, e_inv2, e_invv2, e_call3, e_callv3, e_inv3, e_invv3, e_call4, e_callv4, e_inv4, e_invv4, e_call5, e_callv5, e_inv5, e_invv5, e_call6, e_callv6, e_inv6, e_invv6, e_call7, e_callv7, e_inv7, e_invv7, e_call8, e_callv8, e_inv8, e_invv8, e_ret, e_retz, e_retc, e_retb, e_retv, e_skip, e_sco, e_tlen, e_tat, e_iz_eq0, e_iz_eq1, e_iz_ne0, e_iz_ne1, add0, sc_d, sc_t, inI_e, inL_e, up_eq, true_or, or_true, or_false, false_or, and_true, true_and, not_false_eq_true, Int.reduceAdd, Int.reduceSub, Int.reduceMul, Int.reduceNeg]
        | with_reducible first | refine izl_lt (fun hc => ?_) (fun hc => ?_) | refine izl_ge (fun hc => ?_) (fun hc => ?_) | refine izl_eq (fun hc => ?_) (fun hc => ?_) | refine ic_ge (fun hc => ?_) (fun hc => ?_) | refine ic_lt (fun hc => ?_) (fun hc => ?_) | refine ic_ne (fun hc => ?_) (fun hc => ?_) | refine ic_eq (fun hc => ?_) (fun hc => ?_) | refine ic_le (fun hc => ?_) (fun hc => ?_) | refine ic_gt (fun hc => ?_) (fun hc => ?_) | refine iz_eq (fun hc => ?_) (fun hc => ?_) | refine iz_ne (fun hc => ?_) (fun hc => ?_) | refine iz_lt (fun hc => ?_) (fun hc => ?_) | refine iz_ge (fun hc => ?_) (fun hc => ?_) | refine iz_gt (fun hc => ?_) (fun hc => ?_) | refine iz_le (fun hc => ?_) (fun hc => ?_) | refine iz_nu (fun hc => ?_) (fun hc => ?_) | refine iz_nn (fun hc => ?_) (fun hc => ?_)
        | omega
        | (exfalso; omega)
      all_goals exact ok
  have w1 : ¬ iw tp n 1 i = 1 := by rw [iw_0 z]; decide
  clear z
  simp (disch := omega) only [zLg, zRf, zFq, zEl, zNz, zUf, zUe, zUr, zCe, zSn, gd_0, gd_1, gd_2, gd_3, gd_4, gd_5, gd_6, gd_7, gd_8, gd_9, gd_10, gd_11, gd_12, gd_13, gd_14, gd_15, gd_16, gd_17, gd_18, gd_19, se_0, se_1, se_2, se_3, se_4, se_5, se_6, se_7, se_8, se_9, se_10, se_11, se_12, se_13, se_14, se_15, se_16, se_17, se_18, se_19, e_const, e_load, e_store, e_iinc, e_dup, e_dup2, e_pop, e_iadd, e_isub, e_imul, e_ladd, e_lsub, e_lmul, e_iaddw, e_isubw, e_imulw, e_laddw, e_lsubw, e_lmulw, e_iand, e_ior, e_ishl, e_ishr, e_iushr, e_lcmp, e_imax, e_imin, e_idiv, e_irem, e_ldiv, e_lrem, e_i2l, e_i2b, e_l2i, e_i2c, e_getF, e_getR, e_putF, e_putR, e_putz, e_ald, e_aldR, e_ast, e_astb, e_astz, e_asta, e_len, e_acopy, e_new, e_newa, e_mna, e_this, e_room, e_call0, e_callv0, e_call1, e_callv1, e_inv1, e_invv1, e_call2, e_callv2, e_inv2, e_invv2, e_call3, e_callv3, e_inv3, e_invv3, e_call4, e_callv4, e_inv4, e_invv4, e_call5, e_callv5, e_inv5, e_invv5, e_call6, e_callv6, e_inv6, e_invv6, e_call7, e_callv7, e_inv7, e_invv7, e_call8, e_callv8, e_inv8, e_invv8, e_ret, e_retz, e_retc, e_retb, e_retv, e_skip, e_sco, e_tlen, e_tat, e_iz_eq0, e_iz_eq1, e_iz_ne0, e_iz_ne1, add0, sc_d, sc_t, inI_e, inL_e, up_eq, true_or, or_true, or_false, false_or, and_true, true_and, not_false_eq_true, Int.reduceAdd, Int.reduceSub, Int.reduceMul, Int.reduceNeg]
  refine sX_isWord hT n9 ht hM (by omega) (by omega) (fun z => ?_) (fun z => ?_)
  · have w2 := iw_1 z
    have zk : kdt tp n i ≠ 0 := by have := z.1; omega
    simp only [if_neg w0, if_neg w1, if_pos w2] at h1 h0
    try simp (disch := omega) only [zLg, zRf, zFq, zEl, zNz, zUf, zUe, zUr, zCe, zSn, gd_0, gd_1, gd_2, gd_3, gd_4, gd_5, gd_6, gd_7, gd_8, gd_9, gd_10, gd_11, gd_12, gd_13, gd_14, gd_15, gd_16, gd_17, gd_18, gd_19, se_0, se_1, se_2, se_3, se_4, se_5, se_6, se_7, se_8, se_9, se_10, se_11, se_12, se_13, se_14, se_15, se_16, se_17, se_18, se_19, e_const, e_load, e_store, e_iinc, e_dup, e_dup2, e_pop, e_iadd, e_isub, e_imul, e_ladd, e_lsub, e_lmul, e_iaddw, e_isubw, e_imulw, e_laddw, e_lsubw, e_lmulw, e_iand, e_ior, e_ishl, e_ishr, e_iushr, e_lcmp, e_imax, e_imin, e_idiv, e_irem, e_ldiv, e_lrem, e_i2l, e_i2b, e_l2i, e_i2c, e_getF, e_getR, e_putF, e_putR, e_putz, e_ald, e_aldR, e_ast, e_astb, e_astz, e_asta, e_len, e_acopy, e_new, e_newa, e_mna, e_this, e_room, e_call0, e_callv0, e_call1, e_callv1, e_inv1, e_invv1, e_call2, e_callv2, e_inv2, e_invv2, e_call3, e_callv3, e_inv3, e_invv3, e_call4, e_callv4, e_inv4, e_invv4, e_call5, e_callv5, e_inv5, e_invv5, e_call6, e_callv6, e_inv6, e_invv6, e_call7, e_callv7, e_inv7, e_invv7, e_call8, e_callv8, e_inv8, e_invv8, e_ret, e_retz, e_retc, e_retb, e_retv, e_skip, e_sco, e_tlen, e_tat, e_iz_eq0, e_iz_eq1, e_iz_ne0, e_iz_ne1, add0, sc_d, sc_t, inI_e, inL_e, up_eq, true_or, or_true, or_false, false_or, and_true, true_and, not_false_eq_true, Int.reduceAdd, Int.reduceSub, Int.reduceMul, Int.reduceNeg]
    refine sX_cartLine hT n9 ht hM zk hcc h10 dis qa qs hP hW (fun y F' E' k1 k2 k3 => ?_) (fun y F' E' k1 k2 k3 => ?_)
    · have ok := h1 y F' E' k1 k2 k3
      clear h1 h0
      repeat' first
        | exact absurd hc (by decide)
        | simp (disch := omega) only [ub_X4_readLine_95, zLg, zRf, zFq, zEl, zNz, zUf, zUe, zUr, zCe, zSn, gd_0, gd_1, gd_2, gd_3, gd_4, gd_5, gd_6, gd_7, gd_8, gd_9, gd_10, gd_11, gd_12, gd_13, gd_14, gd_15, gd_16, gd_17, gd_18, gd_19, se_0, se_1, se_2, se_3, se_4, se_5, se_6, se_7, se_8, se_9, se_10, se_11, se_12, se_13, se_14, se_15, se_16, se_17, se_18, se_19, e_const, e_load, e_store, e_iinc, e_dup, e_dup2, e_pop, e_iadd, e_isub, e_imul, e_ladd, e_lsub, e_lmul, e_iaddw, e_isubw, e_imulw, e_laddw, e_lsubw, e_lmulw, e_iand, e_ior, e_ishl, e_ishr, e_iushr, e_lcmp, e_imax, e_imin, e_idiv, e_irem, e_ldiv, e_lrem, e_i2l, e_i2b, e_l2i, e_i2c, e_getF, e_getR, e_putF, e_putR, e_putz, e_ald, e_aldR, e_ast, e_astb, e_astz, e_asta, e_len, e_acopy, e_new, e_newa, e_mna, e_this, e_room, e_call0, e_callv0, e_call1, e_callv1, e_inv1, e_invv1, e_call2, e_callv2, e_inv2, e_invv2, e_call3, e_callv3, e_inv3, e_invv3, e_call4, e_callv4, e_inv4, e_invv4, e_call5, e_callv5, e_inv5, e_invv5, e_call6, e_callv6, e_inv6, e_invv6, e_call7, e_callv7, e_inv7, e_invv7, e_call8, e_callv8, e_inv8, e_invv8, e_ret, e_retz, e_retc, e_retb, e_retv, e_skip, e_sco, e_tlen, e_tat, e_iz_eq0, e_iz_eq1, e_iz_ne0, e_iz_ne1, add0, sc_d, sc_t, inI_e, inL_e, up_eq, true_or, or_true, or_false, false_or, and_true, true_and, not_false_eq_true, Int.reduceAdd, Int.reduceSub, Int.reduceMul, Int.reduceNeg]
        | with_reducible first | refine izl_lt (fun hc => ?_) (fun hc => ?_) | refine izl_ge (fun hc => ?_) (fun hc => ?_) | refine izl_eq (fun hc => ?_) (fun hc => ?_) | refine ic_ge (fun hc => ?_) (fun hc => ?_) | refine ic_lt (fun hc => ?_) (fun hc => ?_) | refine ic_ne (fun hc => ?_) (fun hc => ?_) | refine ic_eq (fun hc => ?_) (fun hc => ?_) | refine ic_le (fun hc => ?_) (fun hc => ?_) | refine ic_gt (fun hc => ?_) (fun hc => ?_) | refine iz_eq (fun hc => ?_) (fun hc => ?_) | refine iz_ne (fun hc => ?_) (fun hc => ?_) | refine iz_lt (fun hc => ?_) (fun hc => ?_) | refine iz_ge (fun hc => ?_) (fun hc => ?_) | refine iz_gt (fun hc => ?_) (fun hc => ?_) | refine iz_le (fun hc => ?_) (fun hc => ?_) | refine iz_nu (fun hc => ?_) (fun hc => ?_) | refine iz_nn (fun hc => ?_) (fun hc => ?_)
        | omega
        | (exfalso; omega)
      all_goals exact ok
    · have ok := h0 y F' E' k1 k2 k3
      clear h1 h0
      repeat' first
        | exact absurd hc (by decide)
        | simp (disch := omega) only [ub_X4_readLine_95, zLg, zRf, zFq, zEl, zNz, zUf, zUe, zUr, zCe, zSn, gd_0, gd_1, gd_2, gd_3, gd_4, gd_5, gd_6, gd_7, gd_8, gd_9, gd_10, gd_11, gd_12, gd_13, gd_14, gd_15, gd_16, gd_17, gd_18, gd_19, se_0, se_1, se_2, se_3, se_4, se_5, se_6, se_7, se_8, se_9, se_10, se_11, se_12, se_13, se_14, se_15, se_16, se_17, se_18, se_19, e_const, e_load, e_store, e_iinc, e_dup, e_dup2, e_pop, e_iadd, e_isub, e_imul, e_ladd, e_lsub, e_lmul, e_iaddw, e_isubw, e_imulw, e_laddw, e_lsubw, e_lmulw, e_iand, e_ior, e_ishl, e_ishr, e_iushr, e_lcmp, e_imax, e_imin, e_idiv, e_irem, e_ldiv, e_lrem, e_i2l, e_i2b, e_l2i, e_i2c, e_getF, e_getR, e_putF, e_putR, e_putz, e_ald, e_aldR, e_ast, e_astb, e_astz, e_asta, e_len, e_acopy, e_new, e_newa, e_mna, e_this, e_room, e_call0, e_callv0, e_call1, e_callv1, e_inv1, e_invv1, e_call2, e_callv2, e_inv2, e_invv2, e_call3, e_callv3, e_inv3, e_invv3, e_call4, e_callv4, e_inv4, e_invv4, e_call5, e_callv5, e_inv5, e_invv5, e_call6, e_callv6, e_inv6, e_invv6, e_call7, e_callv7, e_inv7, e_invv7, e_call8, e_callv8, e_inv8, e_invv8, e_ret, e_retz, e_retc, e_retb, e_retv, e_skip, e_sco, e_tlen, e_tat, e_iz_eq0, e_iz_eq1, e_iz_ne0, e_iz_ne1, add0, sc_d, sc_t, inI_e, inL_e, up_eq, true_or, or_true, or_false, false_or, and_true, true_and, not_false_eq_true, Int.reduceAdd, Int.reduceSub, Int.reduceMul, Int.reduceNeg]
        | with_reducible first | refine izl_lt (fun hc => ?_) (fun hc => ?_) | refine izl_ge (fun hc => ?_) (fun hc => ?_) | refine izl_eq (fun hc => ?_) (fun hc => ?_) | refine ic_ge (fun hc => ?_) (fun hc => ?_) | refine ic_lt (fun hc => ?_) (fun hc => ?_) | refine ic_ne (fun hc => ?_) (fun hc => ?_) | refine ic_eq (fun hc => ?_) (fun hc => ?_) | refine ic_le (fun hc => ?_) (fun hc => ?_) | refine ic_gt (fun hc => ?_) (fun hc => ?_) | refine iz_eq (fun hc => ?_) (fun hc => ?_) | refine iz_ne (fun hc => ?_) (fun hc => ?_) | refine iz_lt (fun hc => ?_) (fun hc => ?_) | refine iz_ge (fun hc => ?_) (fun hc => ?_) | refine iz_gt (fun hc => ?_) (fun hc => ?_) | refine iz_le (fun hc => ?_) (fun hc => ?_) | refine iz_nu (fun hc => ?_) (fun hc => ?_) | refine iz_nn (fun hc => ?_) (fun hc => ?_)
        | omega
        | (exfalso; omega)
      all_goals exact ok
  have w2 : ¬ iw tp n 2 i = 1 := by rw [iw_0 z]; decide
  clear z
  simp (disch := omega) only [zLg, zRf, zFq, zEl, zNz, zUf, zUe, zUr, zCe, zSn, gd_0, gd_1, gd_2, gd_3, gd_4, gd_5, gd_6, gd_7, gd_8, gd_9, gd_10, gd_11, gd_12, gd_13, gd_14, gd_15, gd_16, gd_17, gd_18, gd_19, se_0, se_1, se_2, se_3, se_4, se_5, se_6, se_7, se_8, se_9, se_10, se_11, se_12, se_13, se_14, se_15, se_16, se_17, se_18, se_19, e_const, e_load, e_store, e_iinc, e_dup, e_dup2, e_pop, e_iadd, e_isub, e_imul, e_ladd, e_lsub, e_lmul, e_iaddw, e_isubw, e_imulw, e_laddw, e_lsubw, e_lmulw, e_iand, e_ior, e_ishl, e_ishr, e_iushr, e_lcmp, e_imax, e_imin, e_idiv, e_irem, e_ldiv, e_lrem, e_i2l, e_i2b, e_l2i, e_i2c, e_getF, e_getR, e_putF, e_putR, e_putz, e_ald, e_aldR, e_ast, e_astb, e_astz, e_asta, e_len, e_acopy, e_new, e_newa, e_mna, e_this, e_room, e_call0, e_callv0, e_call1, e_callv1, e_inv1, e_invv1, e_call2, e_callv2, e_inv2, e_invv2, e_call3, e_callv3, e_inv3, e_invv3, e_call4, e_callv4, e_inv4, e_invv4, e_call5, e_callv5, e_inv5, e_invv5, e_call6, e_callv6, e_inv6, e_invv6, e_call7, e_callv7, e_inv7, e_invv7, e_call8, e_callv8, e_inv8, e_invv8, e_ret, e_retz, e_retc, e_retb, e_retv, e_skip, e_sco, e_tlen, e_tat, e_iz_eq0, e_iz_eq1, e_iz_ne0, e_iz_ne1, add0, sc_d, sc_t, inI_e, inL_e, up_eq, true_or, or_true, or_false, false_or, and_true, true_and, not_false_eq_true, Int.reduceAdd, Int.reduceSub, Int.reduceMul, Int.reduceNeg]
  refine sX_isWord hT n9 ht hM (by omega) (by omega) (fun z => ?_) (fun z => ?_)
  · have w3 := iw_1 z
    have zk : kdt tp n i ≠ 0 := by have := z.1; omega
    simp only [if_neg w0, if_neg w1, if_neg w2, if_pos w3] at h1 h0
    try simp (disch := omega) only [zLg, zRf, zFq, zEl, zNz, zUf, zUe, zUr, zCe, zSn, gd_0, gd_1, gd_2, gd_3, gd_4, gd_5, gd_6, gd_7, gd_8, gd_9, gd_10, gd_11, gd_12, gd_13, gd_14, gd_15, gd_16, gd_17, gd_18, gd_19, se_0, se_1, se_2, se_3, se_4, se_5, se_6, se_7, se_8, se_9, se_10, se_11, se_12, se_13, se_14, se_15, se_16, se_17, se_18, se_19, e_const, e_load, e_store, e_iinc, e_dup, e_dup2, e_pop, e_iadd, e_isub, e_imul, e_ladd, e_lsub, e_lmul, e_iaddw, e_isubw, e_imulw, e_laddw, e_lsubw, e_lmulw, e_iand, e_ior, e_ishl, e_ishr, e_iushr, e_lcmp, e_imax, e_imin, e_idiv, e_irem, e_ldiv, e_lrem, e_i2l, e_i2b, e_l2i, e_i2c, e_getF, e_getR, e_putF, e_putR, e_putz, e_ald, e_aldR, e_ast, e_astb, e_astz, e_asta, e_len, e_acopy, e_new, e_newa, e_mna, e_this, e_room, e_call0, e_callv0, e_call1, e_callv1, e_inv1, e_invv1, e_call2, e_callv2, e_inv2, e_invv2, e_call3, e_callv3, e_inv3, e_invv3, e_call4, e_callv4, e_inv4, e_invv4, e_call5, e_callv5, e_inv5, e_invv5, e_call6, e_callv6, e_inv6, e_invv6, e_call7, e_callv7, e_inv7, e_invv7, e_call8, e_callv8, e_inv8, e_invv8, e_ret, e_retz, e_retc, e_retb, e_retv, e_skip, e_sco, e_tlen, e_tat, e_iz_eq0, e_iz_eq1, e_iz_ne0, e_iz_ne1, add0, sc_d, sc_t, inI_e, inL_e, up_eq, true_or, or_true, or_false, false_or, and_true, true_and, not_false_eq_true, Int.reduceAdd, Int.reduceSub, Int.reduceMul, Int.reduceNeg]
    refine sX_storeLine hT n9 ht hM zk hcc h10 dis qa qs hP hW (fun y F' E' k1 k2 k3 => ?_) (fun y F' E' k1 k2 k3 => ?_)
    · have ok := h1 y F' E' k1 k2 k3
      clear h1 h0
      repeat' first
        | exact absurd hc (by decide)
        | simp (disch := omega) only [ub_X4_readLine_95, zLg, zRf, zFq, zEl, zNz, zUf, zUe, zUr, zCe, zSn, gd_0, gd_1, gd_2, gd_3, gd_4, gd_5, gd_6, gd_7, gd_8, gd_9, gd_10, gd_11, gd_12, gd_13, gd_14, gd_15, gd_16, gd_17, gd_18, gd_19, se_0, se_1, se_2, se_3, se_4, se_5, se_6, se_7, se_8, se_9, se_10, se_11, se_12, se_13, se_14, se_15, se_16, se_17, se_18, se_19, e_const, e_load, e_store, e_iinc, e_dup, e_dup2, e_pop, e_iadd, e_isub, e_imul, e_ladd, e_lsub, e_lmul, e_iaddw, e_isubw, e_imulw, e_laddw, e_lsubw, e_lmulw, e_iand, e_ior, e_ishl, e_ishr, e_iushr, e_lcmp, e_imax, e_imin, e_idiv, e_irem, e_ldiv, e_lrem, e_i2l, e_i2b, e_l2i, e_i2c, e_getF, e_getR, e_putF, e_putR, e_putz, e_ald, e_aldR, e_ast, e_astb, e_astz, e_asta, e_len, e_acopy, e_new, e_newa, e_mna, e_this, e_room, e_call0, e_callv0, e_call1, e_callv1, e_inv1, e_invv1, e_call2, e_callv2, e_inv2, e_invv2, e_call3, e_callv3, e_inv3, e_invv3, e_call4, e_callv4, e_inv4, e_invv4, e_call5, e_callv5, e_inv5, e_invv5, e_call6, e_callv6, e_inv6, e_invv6, e_call7, e_callv7, e_inv7, e_invv7, e_call8, e_callv8, e_inv8, e_invv8, e_ret, e_retz, e_retc, e_retb, e_retv, e_skip, e_sco, e_tlen, e_tat, e_iz_eq0, e_iz_eq1, e_iz_ne0, e_iz_ne1, add0, sc_d, sc_t, inI_e, inL_e, up_eq, true_or, or_true, or_false, false_or, and_true, true_and, not_false_eq_true, Int.reduceAdd, Int.reduceSub, Int.reduceMul, Int.reduceNeg]
        | with_reducible first | refine izl_lt (fun hc => ?_) (fun hc => ?_) | refine izl_ge (fun hc => ?_) (fun hc => ?_) | refine izl_eq (fun hc => ?_) (fun hc => ?_) | refine ic_ge (fun hc => ?_) (fun hc => ?_) | refine ic_lt (fun hc => ?_) (fun hc => ?_) | refine ic_ne (fun hc => ?_) (fun hc => ?_) | refine ic_eq (fun hc => ?_) (fun hc => ?_) | refine ic_le (fun hc => ?_) (fun hc => ?_) | refine ic_gt (fun hc => ?_) (fun hc => ?_) | refine iz_eq (fun hc => ?_) (fun hc => ?_) | refine iz_ne (fun hc => ?_) (fun hc => ?_) | refine iz_lt (fun hc => ?_) (fun hc => ?_) | refine iz_ge (fun hc => ?_) (fun hc => ?_) | refine iz_gt (fun hc => ?_) (fun hc => ?_) | refine iz_le (fun hc => ?_) (fun hc => ?_) | refine iz_nu (fun hc => ?_) (fun hc => ?_) | refine iz_nn (fun hc => ?_) (fun hc => ?_)
        | omega
        | (exfalso; omega)
      all_goals exact ok
    · have ok := h0 y F' E' k1 k2 k3
      clear h1 h0
      repeat' first
        | exact absurd hc (by decide)
        | simp (disch := omega) only [ub_X4_readLine_95, zLg, zRf, zFq, zEl, zNz, zUf, zUe, zUr, zCe, zSn, gd_0, gd_1, gd_2, gd_3, gd_4, gd_5, gd_6, gd_7, gd_8, gd_9, gd_10, gd_11, gd_12, gd_13, gd_14, gd_15, gd_16, gd_17, gd_18, gd_19, se_0, se_1, se_2, se_3, se_4, se_5, se_6, se_7, se_8, se_9, se_10, se_11, se_12, se_13, se_14, se_15, se_16, se_17, se_18, se_19, e_const, e_load, e_store, e_iinc, e_dup, e_dup2, e_pop, e_iadd, e_isub, e_imul, e_ladd, e_lsub, e_lmul, e_iaddw, e_isubw, e_imulw, e_laddw, e_lsubw, e_lmulw, e_iand, e_ior, e_ishl, e_ishr, e_iushr, e_lcmp, e_imax, e_imin, e_idiv, e_irem, e_ldiv, e_lrem, e_i2l, e_i2b, e_l2i, e_i2c, e_getF, e_getR, e_putF, e_putR, e_putz, e_ald, e_aldR, e_ast, e_astb, e_astz, e_asta, e_len, e_acopy, e_new, e_newa, e_mna, e_this, e_room, e_call0, e_callv0, e_call1, e_callv1, e_inv1, e_invv1, e_call2, e_callv2, e_inv2, e_invv2, e_call3, e_callv3, e_inv3, e_invv3, e_call4, e_callv4, e_inv4, e_invv4, e_call5, e_callv5, e_inv5, e_invv5, e_call6, e_callv6, e_inv6, e_invv6, e_call7, e_callv7, e_inv7, e_invv7, e_call8, e_callv8, e_inv8, e_invv8, e_ret, e_retz, e_retc, e_retb, e_retv, e_skip, e_sco, e_tlen, e_tat, e_iz_eq0, e_iz_eq1, e_iz_ne0, e_iz_ne1, add0, sc_d, sc_t, inI_e, inL_e, up_eq, true_or, or_true, or_false, false_or, and_true, true_and, not_false_eq_true, Int.reduceAdd, Int.reduceSub, Int.reduceMul, Int.reduceNeg]
        | with_reducible first | refine izl_lt (fun hc => ?_) (fun hc => ?_) | refine izl_ge (fun hc => ?_) (fun hc => ?_) | refine izl_eq (fun hc => ?_) (fun hc => ?_) | refine ic_ge (fun hc => ?_) (fun hc => ?_) | refine ic_lt (fun hc => ?_) (fun hc => ?_) | refine ic_ne (fun hc => ?_) (fun hc => ?_) | refine ic_eq (fun hc => ?_) (fun hc => ?_) | refine ic_le (fun hc => ?_) (fun hc => ?_) | refine ic_gt (fun hc => ?_) (fun hc => ?_) | refine iz_eq (fun hc => ?_) (fun hc => ?_) | refine iz_ne (fun hc => ?_) (fun hc => ?_) | refine iz_lt (fun hc => ?_) (fun hc => ?_) | refine iz_ge (fun hc => ?_) (fun hc => ?_) | refine iz_gt (fun hc => ?_) (fun hc => ?_) | refine iz_le (fun hc => ?_) (fun hc => ?_) | refine iz_nu (fun hc => ?_) (fun hc => ?_) | refine iz_nn (fun hc => ?_) (fun hc => ?_)
        | omega
        | (exfalso; omega)
      all_goals exact ok
  have w3 : ¬ iw tp n 3 i = 1 := by rw [iw_0 z]; decide
  clear z
  simp (disch := omega) only [zLg, zRf, zFq, zEl, zNz, zUf, zUe, zUr, zCe, zSn, gd_0, gd_1, gd_2, gd_3, gd_4, gd_5, gd_6, gd_7, gd_8, gd_9, gd_10, gd_11, gd_12, gd_13, gd_14, gd_15, gd_16, gd_17, gd_18, gd_19, se_0, se_1, se_2, se_3, se_4, se_5, se_6, se_7, se_8, se_9, se_10, se_11, se_12, se_13, se_14, se_15, se_16, se_17, se_18, se_19, e_const, e_load, e_store, e_iinc, e_dup, e_dup2, e_pop, e_iadd, e_isub, e_imul, e_ladd, e_lsub, e_lmul, e_iaddw, e_isubw, e_imulw, e_laddw, e_lsubw, e_lmulw, e_iand, e_ior, e_ishl, e_ishr, e_iushr, e_lcmp, e_imax, e_imin, e_idiv, e_irem, e_ldiv, e_lrem, e_i2l, e_i2b, e_l2i, e_i2c, e_getF, e_getR, e_putF, e_putR, e_putz, e_ald, e_aldR, e_ast, e_astb, e_astz, e_asta, e_len, e_acopy, e_new, e_newa, e_mna, e_this, e_room, e_call0, e_callv0, e_call1, e_callv1, e_inv1, e_invv1, e_call2, e_callv2, e_inv2, e_invv2, e_call3, e_callv3, e_inv3, e_invv3, e_call4, e_callv4, e_inv4, e_invv4, e_call5, e_callv5, e_inv5, e_invv5, e_call6, e_callv6, e_inv6, e_invv6, e_call7, e_callv7, e_inv7, e_invv7, e_call8, e_callv8, e_inv8, e_invv8, e_ret, e_retz, e_retc, e_retb, e_retv, e_skip, e_sco, e_tlen, e_tat, e_iz_eq0, e_iz_eq1, e_iz_ne0, e_iz_ne1, add0, sc_d, sc_t, inI_e, inL_e, up_eq, true_or, or_true, or_false, false_or, and_true, true_and, not_false_eq_true, Int.reduceAdd, Int.reduceSub, Int.reduceMul, Int.reduceNeg]
  refine sX_isWord hT n9 ht hM (by omega) (by omega) (fun z => ?_) (fun z => ?_)
  · have w4 := iw_1 z
    have zk : kdt tp n i ≠ 0 := by have := z.1; omega
    simp only [if_neg w0, if_neg w1, if_neg w2, if_neg w3, if_pos w4] at h1 h0
    try simp (disch := omega) only [zLg, zRf, zFq, zEl, zNz, zUf, zUe, zUr, zCe, zSn, gd_0, gd_1, gd_2, gd_3, gd_4, gd_5, gd_6, gd_7, gd_8, gd_9, gd_10, gd_11, gd_12, gd_13, gd_14, gd_15, gd_16, gd_17, gd_18, gd_19, se_0, se_1, se_2, se_3, se_4, se_5, se_6, se_7, se_8, se_9, se_10, se_11, se_12, se_13, se_14, se_15, se_16, se_17, se_18, se_19, e_const, e_load, e_store, e_iinc, e_dup, e_dup2, e_pop, e_iadd, e_isub, e_imul, e_ladd, e_lsub, e_lmul, e_iaddw, e_isubw, e_imulw, e_laddw, e_lsubw, e_lmulw, e_iand, e_ior, e_ishl, e_ishr, e_iushr, e_lcmp, e_imax, e_imin, e_idiv, e_irem, e_ldiv, e_lrem, e_i2l, e_i2b, e_l2i, e_i2c, e_getF, e_getR, e_putF, e_putR, e_putz, e_ald, e_aldR, e_ast, e_astb, e_astz, e_asta, e_len, e_acopy, e_new, e_newa, e_mna, e_this, e_room, e_call0, e_callv0, e_call1, e_callv1, e_inv1, e_invv1, e_call2, e_callv2, e_inv2, e_invv2, e_call3, e_callv3, e_inv3, e_invv3, e_call4, e_callv4, e_inv4, e_invv4, e_call5, e_callv5, e_inv5, e_invv5, e_call6, e_callv6, e_inv6, e_invv6, e_call7, e_callv7, e_inv7, e_invv7, e_call8, e_callv8, e_inv8, e_invv8, e_ret, e_retz, e_retc, e_retb, e_retv, e_skip, e_sco, e_tlen, e_tat, e_iz_eq0, e_iz_eq1, e_iz_ne0, e_iz_ne1, add0, sc_d, sc_t, inI_e, inL_e, up_eq, true_or, or_true, or_false, false_or, and_true, true_and, not_false_eq_true, Int.reduceAdd, Int.reduceSub, Int.reduceMul, Int.reduceNeg]
    refine sX_goodLine hT n9 ht hM zk hcc h10 dis qa qs hP hW (fun y F' E' k1 k2 k3 => ?_) (fun y F' E' k1 k2 k3 => ?_)
    · have ok := h1 y F' E' k1 k2 k3
      clear h1 h0
      repeat' first
        | exact absurd hc (by decide)
        | simp (disch := omega) only [ub_X4_readLine_95, zLg, zRf, zFq, zEl, zNz, zUf, zUe, zUr, zCe, zSn, gd_0, gd_1, gd_2, gd_3, gd_4, gd_5, gd_6, gd_7, gd_8, gd_9, gd_10, gd_11, gd_12, gd_13, gd_14, gd_15, gd_16, gd_17, gd_18, gd_19, se_0, se_1, se_2, se_3, se_4, se_5, se_6, se_7, se_8, se_9, se_10, se_11, se_12, se_13, se_14, se_15, se_16, se_17, se_18, se_19, e_const, e_load, e_store, e_iinc, e_dup, e_dup2, e_pop, e_iadd, e_isub, e_imul, e_ladd, e_lsub, e_lmul, e_iaddw, e_isubw, e_imulw, e_laddw, e_lsubw, e_lmulw, e_iand, e_ior, e_ishl, e_ishr, e_iushr, e_lcmp, e_imax, e_imin, e_idiv, e_irem, e_ldiv, e_lrem, e_i2l, e_i2b, e_l2i, e_i2c, e_getF, e_getR, e_putF, e_putR, e_putz, e_ald, e_aldR, e_ast, e_astb, e_astz, e_asta, e_len, e_acopy, e_new, e_newa, e_mna, e_this, e_room, e_call0, e_callv0, e_call1, e_callv1, e_inv1, e_invv1, e_call2, e_callv2, e_inv2, e_invv2, e_call3, e_callv3, e_inv3, e_invv3, e_call4, e_callv4, e_inv4, e_invv4, e_call5, e_callv5, e_inv5, e_invv5, e_call6, e_callv6, e_inv6, e_invv6, e_call7, e_callv7, e_inv7, e_invv7, e_call8, e_callv8, e_inv8, e_invv8, e_ret, e_retz, e_retc, e_retb, e_retv, e_skip, e_sco, e_tlen, e_tat, e_iz_eq0, e_iz_eq1, e_iz_ne0, e_iz_ne1, add0, sc_d, sc_t, inI_e, inL_e, up_eq, true_or, or_true, or_false, false_or, and_true, true_and, not_false_eq_true, Int.reduceAdd, Int.reduceSub, Int.reduceMul, Int.reduceNeg]
        | with_reducible first | refine izl_lt (fun hc => ?_) (fun hc => ?_) | refine izl_ge (fun hc => ?_) (fun hc => ?_) | refine izl_eq (fun hc => ?_) (fun hc => ?_) | refine ic_ge (fun hc => ?_) (fun hc => ?_) | refine ic_lt (fun hc => ?_) (fun hc => ?_) | refine ic_ne (fun hc => ?_) (fun hc => ?_) | refine ic_eq (fun hc => ?_) (fun hc => ?_) | refine ic_le (fun hc => ?_) (fun hc => ?_) | refine ic_gt (fun hc => ?_) (fun hc => ?_) | refine iz_eq (fun hc => ?_) (fun hc => ?_) | refine iz_ne (fun hc => ?_) (fun hc => ?_) | refine iz_lt (fun hc => ?_) (fun hc => ?_) | refine iz_ge (fun hc => ?_) (fun hc => ?_) | refine iz_gt (fun hc => ?_) (fun hc => ?_) | refine iz_le (fun hc => ?_) (fun hc => ?_) | refine iz_nu (fun hc => ?_) (fun hc => ?_) | refine iz_nn (fun hc => ?_) (fun hc => ?_)
        | omega
        | (exfalso; omega)
      all_goals exact ok
    · have ok := h0 y F' E' k1 k2 k3
      clear h1 h0
      repeat' first
        | exact absurd hc (by decide)
        | simp (disch := omega) only [ub_X4_readLine_95, zLg, zRf, zFq, zEl, zNz, zUf, zUe, zUr, zCe, zSn, gd_0, gd_1, gd_2, gd_3, gd_4, gd_5, gd_6, gd_7, gd_8, gd_9, gd_10, gd_11, gd_12, gd_13, gd_14, gd_15, gd_16, gd_17, gd_18, gd_19, se_0, se_1, se_2, se_3, se_4, se_5, se_6, se_7, se_8, se_9, se_10, se_11, se_12, se_13, se_14, se_15, se_16, se_17, se_18, se_19, e_const, e_load, e_store, e_iinc, e_dup, e_dup2, e_pop, e_iadd, e_isub, e_imul, e_ladd, e_lsub, e_lmul, e_iaddw, e_isubw, e_imulw, e_laddw, e_lsubw, e_lmulw, e_iand, e_ior, e_ishl, e_ishr, e_iushr, e_lcmp, e_imax, e_imin, e_idiv, e_irem, e_ldiv, e_lrem, e_i2l, e_i2b, e_l2i, e_i2c, e_getF, e_getR, e_putF, e_putR, e_putz, e_ald, e_aldR, e_ast, e_astb, e_astz, e_asta, e_len, e_acopy, e_new, e_newa, e_mna, e_this, e_room, e_call0, e_callv0, e_call1, e_callv1, e_inv1, e_invv1, e_call2, e_callv2, e_inv2, e_invv2, e_call3, e_callv3, e_inv3, e_invv3, e_call4, e_callv4, e_inv4, e_invv4, e_call5, e_callv5, e_inv5, e_invv5, e_call6, e_callv6, e_inv6, e_invv6, e_call7, e_callv7, e_inv7, e_invv7, e_call8, e_callv8, e_inv8, e_invv8, e_ret, e_retz, e_retc, e_retb, e_retv, e_skip, e_sco, e_tlen, e_tat, e_iz_eq0, e_iz_eq1, e_iz_ne0, e_iz_ne1, add0, sc_d, sc_t, inI_e, inL_e, up_eq, true_or, or_true, or_false, false_or, and_true, true_and, not_false_eq_true, Int.reduceAdd, Int.reduceSub, Int.reduceMul, Int.reduceNeg]
        | with_reducible first | refine izl_lt (fun hc => ?_) (fun hc => ?_) | refine izl_ge (fun hc => ?_) (fun hc => ?_) | refine izl_eq (fun hc => ?_) (fun hc => ?_) | refine ic_ge (fun hc => ?_) (fun hc => ?_) | refine ic_lt (fun hc => ?_) (fun hc => ?_) | refine ic_ne (fun hc => ?_) (fun hc => ?_) | refine ic_eq (fun hc => ?_) (fun hc => ?_) | refine ic_le (fun hc => ?_) (fun hc => ?_) | refine ic_gt (fun hc => ?_) (fun hc => ?_) | refine iz_eq (fun hc => ?_) (fun hc => ?_) | refine iz_ne (fun hc => ?_) (fun hc => ?_) | refine iz_lt (fun hc => ?_) (fun hc => ?_) | refine iz_ge (fun hc => ?_) (fun hc => ?_) | refine iz_gt (fun hc => ?_) (fun hc => ?_) | refine iz_le (fun hc => ?_) (fun hc => ?_) | refine iz_nu (fun hc => ?_) (fun hc => ?_) | refine iz_nn (fun hc => ?_) (fun hc => ?_)
        | omega
        | (exfalso; omega)
      all_goals exact ok
  have w4 : ¬ iw tp n 4 i = 1 := by rw [iw_0 z]; decide
  clear z
  simp (disch := omega) only [zLg, zRf, zFq, zEl, zNz, zUf, zUe, zUr, zCe, zSn, gd_0, gd_1, gd_2, gd_3, gd_4, gd_5, gd_6, gd_7, gd_8, gd_9, gd_10, gd_11, gd_12, gd_13, gd_14, gd_15, gd_16, gd_17, gd_18, gd_19, se_0, se_1, se_2, se_3, se_4, se_5, se_6, se_7, se_8, se_9, se_10, se_11, se_12, se_13, se_14, se_15, se_16, se_17, se_18, se_19, e_const, e_load, e_store, e_iinc, e_dup, e_dup2, e_pop, e_iadd, e_isub, e_imul, e_ladd, e_lsub, e_lmul, e_iaddw, e_isubw, e_imulw, e_laddw, e_lsubw, e_lmulw, e_iand, e_ior, e_ishl, e_ishr, e_iushr, e_lcmp, e_imax, e_imin, e_idiv, e_irem, e_ldiv, e_lrem, e_i2l, e_i2b, e_l2i, e_i2c, e_getF, e_getR, e_putF, e_putR, e_putz, e_ald, e_aldR, e_ast, e_astb, e_astz, e_asta, e_len, e_acopy, e_new, e_newa, e_mna, e_this, e_room, e_call0, e_callv0, e_call1, e_callv1, e_inv1, e_invv1, e_call2, e_callv2, e_inv2, e_invv2, e_call3, e_callv3, e_inv3, e_invv3, e_call4, e_callv4, e_inv4, e_invv4, e_call5, e_callv5, e_inv5, e_invv5, e_call6, e_callv6, e_inv6, e_invv6, e_call7, e_callv7, e_inv7, e_invv7, e_call8, e_callv8, e_inv8, e_invv8, e_ret, e_retz, e_retc, e_retb, e_retv, e_skip, e_sco, e_tlen, e_tat, e_iz_eq0, e_iz_eq1, e_iz_ne0, e_iz_ne1, add0, sc_d, sc_t, inI_e, inL_e, up_eq, true_or, or_true, or_false, false_or, and_true, true_and, not_false_eq_true, Int.reduceAdd, Int.reduceSub, Int.reduceMul, Int.reduceNeg]
  refine sX_isWord hT n9 ht hM (by omega) (by omega) (fun z => ?_) (fun z => ?_)
  · have w5 := iw_1 z
    have zk : kdt tp n i ≠ 0 := by have := z.1; omega
    simp only [if_neg w0, if_neg w1, if_neg w2, if_neg w3, if_neg w4, if_pos w5] at h1 h0
    try simp (disch := omega) only [zLg, zRf, zFq, zEl, zNz, zUf, zUe, zUr, zCe, zSn, gd_0, gd_1, gd_2, gd_3, gd_4, gd_5, gd_6, gd_7, gd_8, gd_9, gd_10, gd_11, gd_12, gd_13, gd_14, gd_15, gd_16, gd_17, gd_18, gd_19, se_0, se_1, se_2, se_3, se_4, se_5, se_6, se_7, se_8, se_9, se_10, se_11, se_12, se_13, se_14, se_15, se_16, se_17, se_18, se_19, e_const, e_load, e_store, e_iinc, e_dup, e_dup2, e_pop, e_iadd, e_isub, e_imul, e_ladd, e_lsub, e_lmul, e_iaddw, e_isubw, e_imulw, e_laddw, e_lsubw, e_lmulw, e_iand, e_ior, e_ishl, e_ishr, e_iushr, e_lcmp, e_imax, e_imin, e_idiv, e_irem, e_ldiv, e_lrem, e_i2l, e_i2b, e_l2i, e_i2c, e_getF, e_getR, e_putF, e_putR, e_putz, e_ald, e_aldR, e_ast, e_astb, e_astz, e_asta, e_len, e_acopy, e_new, e_newa, e_mna, e_this, e_room, e_call0, e_callv0, e_call1, e_callv1, e_inv1, e_invv1, e_call2, e_callv2, e_inv2, e_invv2, e_call3, e_callv3, e_inv3, e_invv3, e_call4, e_callv4, e_inv4, e_invv4, e_call5, e_callv5, e_inv5, e_invv5, e_call6, e_callv6, e_inv6, e_invv6, e_call7, e_callv7, e_inv7, e_invv7, e_call8, e_callv8, e_inv8, e_invv8, e_ret, e_retz, e_retc, e_retb, e_retv, e_skip, e_sco, e_tlen, e_tat, e_iz_eq0, e_iz_eq1, e_iz_ne0, e_iz_ne1, add0, sc_d, sc_t, inI_e, inL_e, up_eq, true_or, or_true, or_false, false_or, and_true, true_and, not_false_eq_true, Int.reduceAdd, Int.reduceSub, Int.reduceMul, Int.reduceNeg]
    refine sX_orderLine hT n9 ht hM zk hcc h10 dis qa qs hP hW (fun y F' E' k1 k2 k3 => ?_) (fun y F' E' k1 k2 k3 => ?_)
    · have ok := h1 y F' E' k1 k2 k3
      clear h1 h0
      repeat' first
        | exact absurd hc (by decide)
        | simp (disch := omega) only [ub_X4_readLine_95, zLg, zRf, zFq, zEl, zNz, zUf, zUe, zUr, zCe, zSn, gd_0, gd_1, gd_2, gd_3, gd_4, gd_5, gd_6, gd_7, gd_8, gd_9, gd_10, gd_11, gd_12, gd_13, gd_14, gd_15, gd_16, gd_17, gd_18, gd_19, se_0, se_1, se_2, se_3, se_4, se_5, se_6, se_7, se_8, se_9, se_10, se_11, se_12, se_13, se_14, se_15, se_16, se_17, se_18, se_19, e_const, e_load, e_store, e_iinc, e_dup, e_dup2, e_pop, e_iadd, e_isub, e_imul, e_ladd, e_lsub, e_lmul, e_iaddw, e_isubw, e_imulw, e_laddw, e_lsubw, e_lmulw, e_iand, e_ior, e_ishl, e_ishr, e_iushr, e_lcmp, e_imax, e_imin, e_idiv, e_irem, e_ldiv, e_lrem, e_i2l, e_i2b, e_l2i, e_i2c, e_getF, e_getR, e_putF, e_putR, e_putz, e_ald, e_aldR, e_ast, e_astb, e_astz, e_asta, e_len, e_acopy, e_new, e_newa, e_mna, e_this, e_room, e_call0, e_callv0, e_call1, e_callv1, e_inv1, e_invv1, e_call2, e_callv2, e_inv2, e_invv2, e_call3, e_callv3, e_inv3, e_invv3, e_call4, e_callv4, e_inv4, e_invv4, e_call5, e_callv5, e_inv5, e_invv5, e_call6, e_callv6, e_inv6, e_invv6, e_call7, e_callv7, e_inv7, e_invv7, e_call8, e_callv8, e_inv8, e_invv8, e_ret, e_retz, e_retc, e_retb, e_retv, e_skip, e_sco, e_tlen, e_tat, e_iz_eq0, e_iz_eq1, e_iz_ne0, e_iz_ne1, add0, sc_d, sc_t, inI_e, inL_e, up_eq, true_or, or_true, or_false, false_or, and_true, true_and, not_false_eq_true, Int.reduceAdd, Int.reduceSub, Int.reduceMul, Int.reduceNeg]
        | with_reducible first | refine izl_lt (fun hc => ?_) (fun hc => ?_) | refine izl_ge (fun hc => ?_) (fun hc => ?_) | refine izl_eq (fun hc => ?_) (fun hc => ?_) | refine ic_ge (fun hc => ?_) (fun hc => ?_) | refine ic_lt (fun hc => ?_) (fun hc => ?_) | refine ic_ne (fun hc => ?_) (fun hc => ?_) | refine ic_eq (fun hc => ?_) (fun hc => ?_) | refine ic_le (fun hc => ?_) (fun hc => ?_) | refine ic_gt (fun hc => ?_) (fun hc => ?_) | refine iz_eq (fun hc => ?_) (fun hc => ?_) | refine iz_ne (fun hc => ?_) (fun hc => ?_) | refine iz_lt (fun hc => ?_) (fun hc => ?_) | refine iz_ge (fun hc => ?_) (fun hc => ?_) | refine iz_gt (fun hc => ?_) (fun hc => ?_) | refine iz_le (fun hc => ?_) (fun hc => ?_) | refine iz_nu (fun hc => ?_) (fun hc => ?_) | refine iz_nn (fun hc => ?_) (fun hc => ?_)
        | omega
        | (exfalso; omega)
      all_goals exact ok
    · have ok := h0 y F' E' k1 k2 k3
      clear h1 h0
      repeat' first
        | exact absurd hc (by decide)
        | simp (disch := omega) only [ub_X4_readLine_95, zLg, zRf, zFq, zEl, zNz, zUf, zUe, zUr, zCe, zSn, gd_0, gd_1, gd_2, gd_3, gd_4, gd_5, gd_6, gd_7, gd_8, gd_9, gd_10, gd_11, gd_12, gd_13, gd_14, gd_15, gd_16, gd_17, gd_18, gd_19, se_0, se_1, se_2, se_3, se_4, se_5, se_6, se_7, se_8, se_9, se_10, se_11, se_12, se_13, se_14, se_15, se_16, se_17, se_18, se_19, e_const, e_load, e_store, e_iinc, e_dup, e_dup2, e_pop, e_iadd, e_isub, e_imul, e_ladd, e_lsub, e_lmul, e_iaddw, e_isubw, e_imulw, e_laddw, e_lsubw, e_lmulw, e_iand, e_ior, e_ishl, e_ishr, e_iushr, e_lcmp, e_imax, e_imin, e_idiv, e_irem, e_ldiv, e_lrem, e_i2l, e_i2b, e_l2i, e_i2c, e_getF, e_getR, e_putF, e_putR, e_putz, e_ald, e_aldR, e_ast, e_astb, e_astz, e_asta, e_len, e_acopy, e_new, e_newa, e_mna, e_this, e_room, e_call0, e_callv0, e_call1, e_callv1, e_inv1, e_invv1, e_call2, e_callv2, e_inv2, e_invv2, e_call3, e_callv3, e_inv3, e_invv3, e_call4, e_callv4, e_inv4, e_invv4, e_call5, e_callv5, e_inv5, e_invv5, e_call6, e_callv6, e_inv6, e_invv6, e_call7, e_callv7, e_inv7, e_invv7, e_call8, e_callv8, e_inv8, e_invv8, e_ret, e_retz, e_retc, e_retb, e_retv, e_skip, e_sco, e_tlen, e_tat, e_iz_eq0, e_iz_eq1, e_iz_ne0, e_iz_ne1, add0, sc_d, sc_t, inI_e, inL_e, up_eq, true_or, or_true, or_false, false_or, and_true, true_and, not_false_eq_true, Int.reduceAdd, Int.reduceSub, Int.reduceMul, Int.reduceNeg]
        | with_reducible first | refine izl_lt (fun hc => ?_) (fun hc => ?_) | refine izl_ge (fun hc => ?_) (fun hc => ?_) | refine izl_eq (fun hc => ?_) (fun hc => ?_) | refine ic_ge (fun hc => ?_) (fun hc => ?_) | refine ic_lt (fun hc => ?_) (fun hc => ?_) | refine ic_ne (fun hc => ?_) (fun hc => ?_) | refine ic_eq (fun hc => ?_) (fun hc => ?_) | refine ic_le (fun hc => ?_) (fun hc => ?_) | refine ic_gt (fun hc => ?_) (fun hc => ?_) | refine iz_eq (fun hc => ?_) (fun hc => ?_) | refine iz_ne (fun hc => ?_) (fun hc => ?_) | refine iz_lt (fun hc => ?_) (fun hc => ?_) | refine iz_ge (fun hc => ?_) (fun hc => ?_) | refine iz_gt (fun hc => ?_) (fun hc => ?_) | refine iz_le (fun hc => ?_) (fun hc => ?_) | refine iz_nu (fun hc => ?_) (fun hc => ?_) | refine iz_nn (fun hc => ?_) (fun hc => ?_)
        | omega
        | (exfalso; omega)
      all_goals exact ok
  have w5 : ¬ iw tp n 5 i = 1 := by rw [iw_0 z]; decide
  clear z
  simp (disch := omega) only [zLg, zRf, zFq, zEl, zNz, zUf, zUe, zUr, zCe, zSn, gd_0, gd_1, gd_2, gd_3, gd_4, gd_5, gd_6, gd_7, gd_8, gd_9, gd_10, gd_11, gd_12, gd_13, gd_14, gd_15, gd_16, gd_17, gd_18, gd_19, se_0, se_1, se_2, se_3, se_4, se_5, se_6, se_7, se_8, se_9, se_10, se_11, se_12, se_13, se_14, se_15, se_16, se_17, se_18, se_19, e_const, e_load, e_store, e_iinc, e_dup, e_dup2, e_pop, e_iadd, e_isub, e_imul, e_ladd, e_lsub, e_lmul, e_iaddw, e_isubw, e_imulw, e_laddw, e_lsubw, e_lmulw, e_iand, e_ior, e_ishl, e_ishr, e_iushr, e_lcmp, e_imax, e_imin, e_idiv, e_irem, e_ldiv, e_lrem, e_i2l, e_i2b, e_l2i, e_i2c, e_getF, e_getR, e_putF, e_putR, e_putz, e_ald, e_aldR, e_ast, e_astb, e_astz, e_asta, e_len, e_acopy, e_new, e_newa, e_mna, e_this, e_room, e_call0, e_callv0, e_call1, e_callv1, e_inv1, e_invv1, e_call2, e_callv2, e_inv2, e_invv2, e_call3, e_callv3, e_inv3, e_invv3, e_call4, e_callv4, e_inv4, e_invv4, e_call5, e_callv5, e_inv5, e_invv5, e_call6, e_callv6, e_inv6, e_invv6, e_call7, e_callv7, e_inv7, e_invv7, e_call8, e_callv8, e_inv8, e_invv8, e_ret, e_retz, e_retc, e_retb, e_retv, e_skip, e_sco, e_tlen, e_tat, e_iz_eq0, e_iz_eq1, e_iz_ne0, e_iz_ne1, add0, sc_d, sc_t, inI_e, inL_e, up_eq, true_or, or_true, or_false, false_or, and_true, true_and, not_false_eq_true, Int.reduceAdd, Int.reduceSub, Int.reduceMul, Int.reduceNeg]
  simp only [if_neg w0, if_neg w1, if_neg w2, if_neg w3, if_neg w4, if_neg w5] at h0
  clear h1
  repeat' first
    | exact absurd hc (by decide)
    | with_reducible refine sX_flaw pr (fun F' a b d => ?_)
    | simp (disch := omega) only [ub_X4_readLine_95, zLg, zRf, zFq, zEl, zNz, zUf, zUe, zUr, zCe, zSn, gd_0, gd_1, gd_2, gd_3, gd_4, gd_5, gd_6, gd_7, gd_8, gd_9, gd_10, gd_11, gd_12, gd_13, gd_14, gd_15, gd_16, gd_17, gd_18, gd_19, se_0, se_1, se_2, se_3, se_4, se_5, se_6, se_7, se_8, se_9, se_10, se_11, se_12, se_13, se_14, se_15, se_16, se_17, se_18, se_19, e_const, e_load, e_store, e_iinc, e_dup, e_dup2, e_pop, e_iadd, e_isub, e_imul, e_ladd, e_lsub, e_lmul, e_iaddw, e_isubw, e_imulw, e_laddw, e_lsubw, e_lmulw, e_iand, e_ior, e_ishl, e_ishr, e_iushr, e_lcmp, e_imax, e_imin, e_idiv, e_irem, e_ldiv, e_lrem, e_i2l, e_i2b, e_l2i, e_i2c, e_getF, e_getR, e_putF, e_putR, e_putz, e_ald, e_aldR, e_ast, e_astb, e_astz, e_asta, e_len, e_acopy, e_new, e_newa, e_mna, e_this, e_room, e_call0, e_callv0, e_call1, e_callv1, e_inv1, e_invv1, e_call2, e_callv2, e_inv2, e_invv2, e_call3, e_callv3, e_inv3, e_invv3, e_call4, e_callv4, e_inv4, e_invv4, e_call5, e_callv5, e_inv5, e_invv5, e_call6, e_callv6, e_inv6, e_invv6, e_call7, e_callv7, e_inv7, e_invv7, e_call8, e_callv8, e_inv8, e_invv8, e_ret, e_retz, e_retc, e_retb, e_retv, e_skip, e_sco, e_tlen, e_tat, e_iz_eq0, e_iz_eq1, e_iz_ne0, e_iz_ne1, add0, sc_d, sc_t, inI_e, inL_e, up_eq, true_or, or_true, or_false, false_or, and_true, true_and, not_false_eq_true, Int.reduceAdd, Int.reduceSub, Int.reduceMul, Int.reduceNeg, e3]
    | with_reducible first | refine izl_lt (fun hc => ?_) (fun hc => ?_) | refine izl_ge (fun hc => ?_) (fun hc => ?_) | refine izl_eq (fun hc => ?_) (fun hc => ?_) | refine ic_ge (fun hc => ?_) (fun hc => ?_) | refine ic_lt (fun hc => ?_) (fun hc => ?_) | refine ic_ne (fun hc => ?_) (fun hc => ?_) | refine ic_eq (fun hc => ?_) (fun hc => ?_) | refine ic_le (fun hc => ?_) (fun hc => ?_) | refine ic_gt (fun hc => ?_) (fun hc => ?_) | refine iz_eq (fun hc => ?_) (fun hc => ?_) | refine iz_ne (fun hc => ?_) (fun hc => ?_) | refine iz_lt (fun hc => ?_) (fun hc => ?_) | refine iz_ge (fun hc => ?_) (fun hc => ?_) | refine iz_gt (fun hc => ?_) (fun hc => ?_) | refine iz_le (fun hc => ?_) (fun hc => ?_) | refine iz_nu (fun hc => ?_) (fun hc => ?_) | refine iz_nn (fun hc => ?_) (fun hc => ?_)
    | omega
    | (exfalso; omega)
  all_goals exact h0 (show (1 : Int) ≠ 0 by decide) _ _ a (b.trans e3) (rfX.y rfX.s d)
end READX

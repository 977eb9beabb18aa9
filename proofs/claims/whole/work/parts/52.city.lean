/-! ===== a thing, a city: where they lie, what they say (class side) ===== -/
def thT (t : Int) (L : Int → Int) (R : Int → Int → Int) : Prop := (0 ≤ t) ∧ (R t 0 = t + 1) ∧ (R t 1 = t + 2) ∧ (R t 2 = t + 3) ∧ (L (t + 1) = 3) ∧ (L (t + 2) = 3) ∧ (L (t + 3) = 3)
theorem tt_p {t : Int} {L : Int → Int} {R : Int → Int → Int} (h : thT t L R) : 0 ≤ t := h.1
theorem tt_0 {t : Int} {L : Int → Int} {R : Int → Int → Int} (h : thT t L R) : R t 0 = t + 1 := h.2.1
theorem tt_1 {t : Int} {L : Int → Int} {R : Int → Int → Int} (h : thT t L R) : R t 1 = t + 2 := h.2.2.1
theorem tt_2 {t : Int} {L : Int → Int} {R : Int → Int → Int} (h : thT t L R) : R t 2 = t + 3 := h.2.2.2.1
theorem tt_l1 {t : Int} {L : Int → Int} {R : Int → Int → Int} (h : thT t L R) : L (t + 1) = 3 := h.2.2.2.2.1
theorem tt_l2 {t : Int} {L : Int → Int} {R : Int → Int → Int} (h : thT t L R) : L (t + 2) = 3 := h.2.2.2.2.2.1
theorem tt_l3 {t : Int} {L : Int → Int} {R : Int → Int → Int} (h : thT t L R) : L (t + 3) = 3 := h.2.2.2.2.2.2
/-- where a city of the class lies -/
def ctT (a : Int) (L : Int → Int) (R : Int → Int → Int) : Prop := (0 ≤ a) ∧ (R a 5 = a + 1) ∧ (R a 6 = a + 2) ∧ (R a 7 = a + 14) ∧ (R a 8 = a + 23) ∧ (R a 9 = a + 30) ∧ (R a 10 = a + 39) ∧ (R a 11 = a + 40) ∧ (L (a + 1) = 6) ∧ (L (a + 2) = 11) ∧ (L (a + 14) = 8) ∧ (L (a + 23) = 6) ∧ (L (a + 30) = 8) ∧ (L (a + 39) = 8) ∧ (L (a + 40) = 8) ∧ (∀ g : Int, 0 ≤ g → g < 11 → R (a + 2) g = a + 3 + g) ∧ (∀ g : Int, 0 ≤ g → g < 11 → L (a + 3 + g) = 7) ∧ (∀ g : Int, 0 ≤ g → g < 8 → R (a + 14) g = a + 15 + g) ∧ (∀ g : Int, 0 ≤ g → g < 8 → L (a + 15 + g) = 2) ∧ (∀ g : Int, 0 ≤ g → g < 6 → R (a + 23) g = a + 24 + g) ∧ (∀ g : Int, 0 ≤ g → g < 6 → L (a + 24 + g) = 3) ∧ (∀ g : Int, 0 ≤ g → g < 8 → R (a + 30) g = a + 31 + g) ∧ (∀ g : Int, 0 ≤ g → g < 8 → L (a + 31 + g) = 6) ∧ (∀ g : Int, 0 ≤ g → g < 8 → R (a + 39) g = a + 41 + 8 * g) ∧ (∀ g : Int, 0 ≤ g → g < 8 → R (a + 40) g = a + 45 + 8 * g) ∧ (∀ g : Int, 0 ≤ g → g < 8 → thT (a + 41 + 8 * g) L R) ∧ (∀ g : Int, 0 ≤ g → g < 8 → thT (a + 45 + 8 * g) L R)
theorem ct_p {a : Int} {L : Int → Int} {R : Int → Int → Int} (h : ctT a L R) : 0 ≤ a := h.1
theorem ct_5 {a : Int} {L : Int → Int} {R : Int → Int → Int} (h : ctT a L R) : R a 5 = a + 1 := h.2.1
theorem ct_6 {a : Int} {L : Int → Int} {R : Int → Int → Int} (h : ctT a L R) : R a 6 = a + 2 := h.2.2.1
theorem ct_7 {a : Int} {L : Int → Int} {R : Int → Int → Int} (h : ctT a L R) : R a 7 = a + 14 := h.2.2.2.1
theorem ct_8 {a : Int} {L : Int → Int} {R : Int → Int → Int} (h : ctT a L R) : R a 8 = a + 23 := h.2.2.2.2.1
theorem ct_9 {a : Int} {L : Int → Int} {R : Int → Int → Int} (h : ctT a L R) : R a 9 = a + 30 := h.2.2.2.2.2.1
theorem ct_10 {a : Int} {L : Int → Int} {R : Int → Int → Int} (h : ctT a L R) : R a 10 = a + 39 := h.2.2.2.2.2.2.1
theorem ct_11 {a : Int} {L : Int → Int} {R : Int → Int → Int} (h : ctT a L R) : R a 11 = a + 40 := h.2.2.2.2.2.2.2.1
theorem ct_l1 {a : Int} {L : Int → Int} {R : Int → Int → Int} (h : ctT a L R) : L (a + 1) = 6 := h.2.2.2.2.2.2.2.2.1
theorem ct_l2 {a : Int} {L : Int → Int} {R : Int → Int → Int} (h : ctT a L R) : L (a + 2) = 11 := h.2.2.2.2.2.2.2.2.2.1
theorem ct_l14 {a : Int} {L : Int → Int} {R : Int → Int → Int} (h : ctT a L R) : L (a + 14) = 8 := h.2.2.2.2.2.2.2.2.2.2.1
theorem ct_l23 {a : Int} {L : Int → Int} {R : Int → Int → Int} (h : ctT a L R) : L (a + 23) = 6 := h.2.2.2.2.2.2.2.2.2.2.2.1
theorem ct_l30 {a : Int} {L : Int → Int} {R : Int → Int → Int} (h : ctT a L R) : L (a + 30) = 8 := h.2.2.2.2.2.2.2.2.2.2.2.2.1
theorem ct_l39 {a : Int} {L : Int → Int} {R : Int → Int → Int} (h : ctT a L R) : L (a + 39) = 8 := h.2.2.2.2.2.2.2.2.2.2.2.2.2.1
theorem ct_l40 {a : Int} {L : Int → Int} {R : Int → Int → Int} (h : ctT a L R) : L (a + 40) = 8 := h.2.2.2.2.2.2.2.2.2.2.2.2.2.2.1
theorem ct_gr {a : Int} {L : Int → Int} {R : Int → Int → Int} (h : ctT a L R) : ∀ g : Int, 0 ≤ g → g < 11 → R (a + 2) g = a + 3 + g := h.2.2.2.2.2.2.2.2.2.2.2.2.2.2.2.1
theorem ct_gl {a : Int} {L : Int → Int} {R : Int → Int → Int} (h : ctT a L R) : ∀ g : Int, 0 ≤ g → g < 11 → L (a + 3 + g) = 7 := h.2.2.2.2.2.2.2.2.2.2.2.2.2.2.2.2.1
theorem ct_cr {a : Int} {L : Int → Int} {R : Int → Int → Int} (h : ctT a L R) : ∀ g : Int, 0 ≤ g → g < 8 → R (a + 14) g = a + 15 + g := h.2.2.2.2.2.2.2.2.2.2.2.2.2.2.2.2.2.1
theorem ct_cl {a : Int} {L : Int → Int} {R : Int → Int → Int} (h : ctT a L R) : ∀ g : Int, 0 ≤ g → g < 8 → L (a + 15 + g) = 2 := h.2.2.2.2.2.2.2.2.2.2.2.2.2.2.2.2.2.2.1
theorem ct_sr {a : Int} {L : Int → Int} {R : Int → Int → Int} (h : ctT a L R) : ∀ g : Int, 0 ≤ g → g < 6 → R (a + 23) g = a + 24 + g := h.2.2.2.2.2.2.2.2.2.2.2.2.2.2.2.2.2.2.2.1
theorem ct_sl {a : Int} {L : Int → Int} {R : Int → Int → Int} (h : ctT a L R) : ∀ g : Int, 0 ≤ g → g < 6 → L (a + 24 + g) = 3 := h.2.2.2.2.2.2.2.2.2.2.2.2.2.2.2.2.2.2.2.2.1
theorem ct_or {a : Int} {L : Int → Int} {R : Int → Int → Int} (h : ctT a L R) : ∀ g : Int, 0 ≤ g → g < 8 → R (a + 30) g = a + 31 + g := h.2.2.2.2.2.2.2.2.2.2.2.2.2.2.2.2.2.2.2.2.2.1
theorem ct_ol {a : Int} {L : Int → Int} {R : Int → Int → Int} (h : ctT a L R) : ∀ g : Int, 0 ≤ g → g < 8 → L (a + 31 + g) = 6 := h.2.2.2.2.2.2.2.2.2.2.2.2.2.2.2.2.2.2.2.2.2.2.1
theorem ct_wr {a : Int} {L : Int → Int} {R : Int → Int → Int} (h : ctT a L R) : ∀ g : Int, 0 ≤ g → g < 8 → R (a + 39) g = a + 41 + 8 * g := h.2.2.2.2.2.2.2.2.2.2.2.2.2.2.2.2.2.2.2.2.2.2.2.1
theorem ct_pr {a : Int} {L : Int → Int} {R : Int → Int → Int} (h : ctT a L R) : ∀ g : Int, 0 ≤ g → g < 8 → R (a + 40) g = a + 45 + 8 * g := h.2.2.2.2.2.2.2.2.2.2.2.2.2.2.2.2.2.2.2.2.2.2.2.2.1
theorem ct_wt {a : Int} {L : Int → Int} {R : Int → Int → Int} (h : ctT a L R) : ∀ g : Int, 0 ≤ g → g < 8 → thT (a + 41 + 8 * g) L R := h.2.2.2.2.2.2.2.2.2.2.2.2.2.2.2.2.2.2.2.2.2.2.2.2.2.1
theorem ct_pt {a : Int} {L : Int → Int} {R : Int → Int → Int} (h : ctT a L R) : ∀ g : Int, 0 ≤ g → g < 8 → thT (a + 45 + 8 * g) L R := h.2.2.2.2.2.2.2.2.2.2.2.2.2.2.2.2.2.2.2.2.2.2.2.2.2.2
/-- what a thing says -/
def thM (t : Int) (th : Int → Int) (F E : Int → Int → Int) : Prop := (E (t + 1) 0 = th 0) ∧ (E (t + 1) 1 = th 0) ∧ (E (t + 1) 2 = th 2) ∧ (E (t + 2) 0 = th 1) ∧ (E (t + 2) 1 = th 2) ∧ (E (t + 2) 2 = th 1) ∧ (E (t + 3) 0 = th 2) ∧ (E (t + 3) 1 = th 1) ∧ (E (t + 3) 2 = th 0) ∧ (F t 3 = th 3) ∧ (F t 4 = th 4) ∧ (F t 5 = th 5) ∧ (F t 6 = th 6)
theorem tm_l0 {t : Int} {th : Int → Int} {F E : Int → Int → Int} (h : thM t th F E) : E (t + 1) 0 = th 0 := h.1
theorem tm_l1 {t : Int} {th : Int → Int} {F E : Int → Int → Int} (h : thM t th F E) : E (t + 1) 1 = th 0 := h.2.1
theorem tm_l2 {t : Int} {th : Int → Int} {F E : Int → Int → Int} (h : thM t th F E) : E (t + 1) 2 = th 2 := h.2.2.1
theorem tm_w0 {t : Int} {th : Int → Int} {F E : Int → Int → Int} (h : thM t th F E) : E (t + 2) 0 = th 1 := h.2.2.2.1
theorem tm_w1 {t : Int} {th : Int → Int} {F E : Int → Int → Int} (h : thM t th F E) : E (t + 2) 1 = th 2 := h.2.2.2.2.1
theorem tm_w2 {t : Int} {th : Int → Int} {F E : Int → Int → Int} (h : thM t th F E) : E (t + 2) 2 = th 1 := h.2.2.2.2.2.1
theorem tm_h0 {t : Int} {th : Int → Int} {F E : Int → Int → Int} (h : thM t th F E) : E (t + 3) 0 = th 2 := h.2.2.2.2.2.2.1
theorem tm_h1 {t : Int} {th : Int → Int} {F E : Int → Int → Int} (h : thM t th F E) : E (t + 3) 1 = th 1 := h.2.2.2.2.2.2.2.1
theorem tm_h2 {t : Int} {th : Int → Int} {F E : Int → Int → Int} (h : thM t th F E) : E (t + 3) 2 = th 0 := h.2.2.2.2.2.2.2.2.1
theorem tm_3 {t : Int} {th : Int → Int} {F E : Int → Int → Int} (h : thM t th F E) : F t 3 = th 3 := h.2.2.2.2.2.2.2.2.2.1
theorem tm_4 {t : Int} {th : Int → Int} {F E : Int → Int → Int} (h : thM t th F E) : F t 4 = th 4 := h.2.2.2.2.2.2.2.2.2.2.1
theorem tm_5 {t : Int} {th : Int → Int} {F E : Int → Int → Int} (h : thM t th F E) : F t 5 = th 5 := h.2.2.2.2.2.2.2.2.2.2.2.1
theorem tm_6 {t : Int} {th : Int → Int} {F E : Int → Int → Int} (h : thM t th F E) : F t 6 = th 6 := h.2.2.2.2.2.2.2.2.2.2.2.2
def thW (th : Int → Int) : Prop := (1 ≤ th 0 ∧ th 0 ≤ 99) ∧ (1 ≤ th 1 ∧ th 1 ≤ 99) ∧ (1 ≤ th 2 ∧ th 2 ≤ 99) ∧ (0 ≤ th 3 ∧ th 3 ≤ 99) ∧ (0 ≤ th 4 ∧ th 4 ≤ 9) ∧ (th 5 = 0 ∨ th 5 = 1) ∧ (th 6 = 0 ∨ th 6 = 1)
theorem tw_0 {th : Int → Int} (h : thW th) : 1 ≤ th 0 ∧ th 0 ≤ 99 := h.1
theorem tw_1 {th : Int → Int} (h : thW th) : 1 ≤ th 1 ∧ th 1 ≤ 99 := h.2.1
theorem tw_2 {th : Int → Int} (h : thW th) : 1 ≤ th 2 ∧ th 2 ≤ 99 := h.2.2.1
theorem tw_3 {th : Int → Int} (h : thW th) : 0 ≤ th 3 ∧ th 3 ≤ 99 := h.2.2.2.1
theorem tw_4 {th : Int → Int} (h : thW th) : 0 ≤ th 4 ∧ th 4 ≤ 9 := h.2.2.2.2.1
theorem tw_5 {th : Int → Int} (h : thW th) : th 5 = 0 ∨ th 5 = 1 := h.2.2.2.2.2.1
theorem tw_6 {th : Int → Int} (h : thW th) : th 6 = 0 ∨ th 6 = 1 := h.2.2.2.2.2.2
def pl (th : Int → Int) (p : Int) : Int := if p = 2 then th 2 else th 0
def pw (th : Int → Int) (p : Int) : Int := if p = 1 then th 2 else th 1
def ph (th : Int → Int) (p : Int) : Int := if p = 0 then th 2 else if p = 1 then th 1 else th 0
abbrev lie (th : Int → Int) (p : Int) : Prop := p = 0 ∨ (p = 1 ∧ th 5 = 1) ∨ (p = 2 ∧ th 6 = 1)
theorem p3 {p : Int} (h0 : 0 ≤ p) (h3 : p < 3) : p = 0 ∨ p = 1 ∨ p = 2 := by omega
theorem tm_l {t : Int} {th : Int → Int} {F E : Int → Int → Int} (h : thM t th F E) (p : Int) (h0 : 0 ≤ p) (h3 : p < 3) : E (t + 1) p = pl th p := by
  rcases p3 h0 h3 with rfl | rfl | rfl
  · have := tm_l0 h
    exact this
  · have := tm_l1 h
    exact this
  · have := tm_l2 h
    exact this
theorem tm_w {t : Int} {th : Int → Int} {F E : Int → Int → Int} (h : thM t th F E) (p : Int) (h0 : 0 ≤ p) (h3 : p < 3) : E (t + 2) p = pw th p := by
  rcases p3 h0 h3 with rfl | rfl | rfl
  · have := tm_w0 h
    exact this
  · have := tm_w1 h
    exact this
  · have := tm_w2 h
    exact this
theorem tm_h {t : Int} {th : Int → Int} {F E : Int → Int → Int} (h : thM t th F E) (p : Int) (h0 : 0 ≤ p) (h3 : p < 3) : E (t + 3) p = ph th p := by
  rcases p3 h0 h3 with rfl | rfl | rfl
  · have := tm_h0 h
    exact this
  · have := tm_h1 h
    exact this
  · have := tm_h2 h
    exact this
theorem tw_pl {th : Int → Int} (h : thW th) (p : Int) : 1 ≤ pl th p ∧ pl th p ≤ 99 := by
  have h0 := tw_0 h
  have h2 := tw_2 h
  unfold pl
  split <;> omega
theorem tw_pw {th : Int → Int} (h : thW th) (p : Int) : 1 ≤ pw th p ∧ pw th p ≤ 99 := by
  have h0 := tw_1 h
  have h2 := tw_2 h
  unfold pw
  split <;> omega
abbrev Cy : Type := Int → Int → Int → Int
def upw (x d : Int) : Int := if d ≤ 1 then x else Int.tdiv (x + d - 1) d
/-- a good, whole -/
def wh (C : Cy) (k : Int) : Int → Int := fun i => if i = 4 then 1 else if i = 5 then 1 - C 6 k 6 else if i = 6 then C 6 k 5 else C 6 k i
/-- in how many parts -/
def pn (C : Cy) (k : Int) : Int := if C 6 k 6 = 1 then 0 else C 6 k 4
/-- a part of it -/
def pt (C : Cy) (k : Int) : Int → Int := fun i => if i = 0 then upw (C 6 k 0) (pn C k) else if i = 3 then upw (C 6 k 3) (pn C k) else if i = 4 then pn C k else if i = 5 then 1 - C 6 k 6 else if i = 6 then C 6 k 5 else C 6 k i
/-- what a city of the class says -/
def ctM (a : Int) (C : Cy) (F E : Int → Int → Int) : Prop := (F a 0 = C 0 0 0) ∧ (F a 1 = C 0 1 0) ∧ (F a 2 = C 0 2 0) ∧ (F a 3 = C 0 3 0) ∧ (F a 4 = C 0 4 0) ∧ (∀ r : Int, 0 ≤ r → r < C 0 0 0 → E (a + 1) r = C 1 r 0) ∧ (∀ g w : Int, 0 ≤ g → g < C 0 1 0 → 0 ≤ w → w < 7 → E (a + 3 + g) w = C 2 g w) ∧ (∀ g w : Int, 0 ≤ g → g < C 0 2 0 → 0 ≤ w → w < 2 → E (a + 15 + g) w = C 3 g w) ∧ (∀ g w : Int, 0 ≤ g → g < C 0 0 0 → 1 ≤ w → w < 3 → E (a + 24 + g) w = C 4 g w) ∧ (∀ g w : Int, 0 ≤ g → g < C 0 4 0 → 0 ≤ w → w < 6 → E (a + 31 + g) w = C 5 g w) ∧ (∀ g : Int, 0 ≤ g → g < C 0 3 0 → thM (a + 41 + 8 * g) (wh C g) F E) ∧ (∀ g : Int, 0 ≤ g → g < C 0 3 0 → thM (a + 45 + 8 * g) (pt C g) F E)
theorem cm_0 {a : Int} {C : Cy} {F E : Int → Int → Int} (h : ctM a C F E) : F a 0 = C 0 0 0 := h.1
theorem cm_1 {a : Int} {C : Cy} {F E : Int → Int → Int} (h : ctM a C F E) : F a 1 = C 0 1 0 := h.2.1
theorem cm_2 {a : Int} {C : Cy} {F E : Int → Int → Int} (h : ctM a C F E) : F a 2 = C 0 2 0 := h.2.2.1
theorem cm_3 {a : Int} {C : Cy} {F E : Int → Int → Int} (h : ctM a C F E) : F a 3 = C 0 3 0 := h.2.2.2.1
theorem cm_4 {a : Int} {C : Cy} {F E : Int → Int → Int} (h : ctM a C F E) : F a 4 = C 0 4 0 := h.2.2.2.2.1
theorem cm_w {a : Int} {C : Cy} {F E : Int → Int → Int} (h : ctM a C F E) : ∀ r : Int, 0 ≤ r → r < C 0 0 0 → E (a + 1) r = C 1 r 0 := h.2.2.2.2.2.1
theorem cm_g {a : Int} {C : Cy} {F E : Int → Int → Int} (h : ctM a C F E) : ∀ g w : Int, 0 ≤ g → g < C 0 1 0 → 0 ≤ w → w < 7 → E (a + 3 + g) w = C 2 g w := h.2.2.2.2.2.2.1
theorem cm_c {a : Int} {C : Cy} {F E : Int → Int → Int} (h : ctM a C F E) : ∀ g w : Int, 0 ≤ g → g < C 0 2 0 → 0 ≤ w → w < 2 → E (a + 15 + g) w = C 3 g w := h.2.2.2.2.2.2.2.1
theorem cm_s {a : Int} {C : Cy} {F E : Int → Int → Int} (h : ctM a C F E) : ∀ g w : Int, 0 ≤ g → g < C 0 0 0 → 1 ≤ w → w < 3 → E (a + 24 + g) w = C 4 g w := h.2.2.2.2.2.2.2.2.1
theorem cm_o {a : Int} {C : Cy} {F E : Int → Int → Int} (h : ctM a C F E) : ∀ g w : Int, 0 ≤ g → g < C 0 4 0 → 0 ≤ w → w < 6 → E (a + 31 + g) w = C 5 g w := h.2.2.2.2.2.2.2.2.2.1
theorem cm_wh {a : Int} {C : Cy} {F E : Int → Int → Int} (h : ctM a C F E) : ∀ g : Int, 0 ≤ g → g < C 0 3 0 → thM (a + 41 + 8 * g) (wh C g) F E := h.2.2.2.2.2.2.2.2.2.2.1
theorem cm_pt {a : Int} {C : Cy} {F E : Int → Int → Int} (h : ctM a C F E) : ∀ g : Int, 0 ≤ g → g < C 0 3 0 → thM (a + 45 + 8 * g) (pt C g) F E := h.2.2.2.2.2.2.2.2.2.2.2
/-- bounds of what a city says -/
def ctW (C : Cy) : Prop := (0 ≤ C 0 0 0 ∧ C 0 0 0 ≤ 6) ∧ (0 ≤ C 0 1 0 ∧ C 0 1 0 ≤ 11) ∧ (0 ≤ C 0 2 0 ∧ C 0 2 0 ≤ 8) ∧ (0 ≤ C 0 3 0 ∧ C 0 3 0 ≤ 8) ∧ (0 ≤ C 0 4 0 ∧ C 0 4 0 ≤ 8) ∧ (∀ r : Int, 0 ≤ r → r < C 0 0 0 → 1 ≤ C 1 r 0 ∧ C 1 r 0 ≤ 99) ∧ (∀ g : Int, 0 ≤ g → g < C 0 1 0 → 0 ≤ C 2 g 0 ∧ C 2 g 0 + 1 < C 0 0 0) ∧ (∀ g : Int, 0 ≤ g → g < C 0 1 0 → 0 ≤ C 2 g 1 ∧ C 2 g 1 < 12) ∧ (∀ g : Int, 0 ≤ g → g < C 0 1 0 → 1 ≤ C 2 g 2 ∧ C 2 g 2 ≤ 99) ∧ (∀ g : Int, 0 ≤ g → g < C 0 1 0 → 1 ≤ C 2 g 3 ∧ C 2 g 3 ≤ 99) ∧ (∀ g : Int, 0 ≤ g → g < C 0 1 0 → 1 ≤ C 2 g 4 ∧ C 2 g 4 ≤ 9) ∧ (∀ g : Int, 0 ≤ g → g < C 0 1 0 → 0 ≤ C 2 g 5 ∧ C 2 g 5 ≤ 99) ∧ (∀ g : Int, 0 ≤ g → g < C 0 1 0 → C 2 g 6 = 0 ∨ C 2 g 6 = 1) ∧ (∀ g : Int, 0 ≤ g → g < C 0 2 0 → 0 ≤ C 3 g 0 ∧ C 3 g 0 < C 0 0 0) ∧ (∀ g : Int, 0 ≤ g → g < C 0 2 0 → 1 ≤ C 3 g 1 ∧ C 3 g 1 ≤ 99) ∧ (∀ g : Int, 0 ≤ g → g < C 0 0 0 → 0 ≤ C 4 g 1 ∧ C 4 g 1 ≤ 999) ∧ (∀ g : Int, 0 ≤ g → g < C 0 0 0 → 0 ≤ C 4 g 2 ∧ C 4 g 2 ≤ 99) ∧ (∀ g : Int, 0 ≤ g → g < C 0 4 0 → 0 ≤ C 5 g 0 ∧ C 5 g 0 < C 0 3 0) ∧ (∀ g : Int, 0 ≤ g → g < C 0 4 0 → 0 ≤ C 5 g 1 ∧ C 5 g 1 < C 0 0 0) ∧ (∀ g : Int, 0 ≤ g → g < C 0 4 0 → 0 ≤ C 5 g 2 ∧ C 5 g 2 < 12) ∧ (∀ g : Int, 0 ≤ g → g < C 0 4 0 → 0 ≤ C 5 g 3 ∧ C 5 g 3 < C 0 0 0) ∧ (∀ g : Int, 0 ≤ g → g < C 0 4 0 → 0 ≤ C 5 g 4 ∧ C 5 g 4 < 12) ∧ (∀ g : Int, 0 ≤ g → g < C 0 4 0 → 0 ≤ C 5 g 5 ∧ C 5 g 5 < 24) ∧ (∀ g w : Int, 0 ≤ g → g < C 0 3 0 → 0 ≤ w → w < 4 → 1 ≤ C 6 g w ∧ C 6 g w ≤ 99) ∧ (∀ g : Int, 0 ≤ g → g < C 0 3 0 → C 6 g 4 = 0 ∨ (2 ≤ C 6 g 4 ∧ C 6 g 4 ≤ 9)) ∧ (∀ g : Int, 0 ≤ g → g < C 0 3 0 → C 6 g 5 = 0 ∨ C 6 g 5 = 1) ∧ (∀ g : Int, 0 ≤ g → g < C 0 3 0 → C 6 g 6 = 0 ∨ C 6 g 6 = 1)
theorem cw_0 {C : Cy} (h : ctW C) : 0 ≤ C 0 0 0 ∧ C 0 0 0 ≤ 6 := h.1
theorem cw_1 {C : Cy} (h : ctW C) : 0 ≤ C 0 1 0 ∧ C 0 1 0 ≤ 11 := h.2.1
theorem cw_2 {C : Cy} (h : ctW C) : 0 ≤ C 0 2 0 ∧ C 0 2 0 ≤ 8 := h.2.2.1
theorem cw_3 {C : Cy} (h : ctW C) : 0 ≤ C 0 3 0 ∧ C 0 3 0 ≤ 8 := h.2.2.2.1
theorem cw_4 {C : Cy} (h : ctW C) : 0 ≤ C 0 4 0 ∧ C 0 4 0 ≤ 8 := h.2.2.2.2.1
theorem cw_w {C : Cy} (h : ctW C) : ∀ r : Int, 0 ≤ r → r < C 0 0 0 → 1 ≤ C 1 r 0 ∧ C 1 r 0 ≤ 99 := h.2.2.2.2.2.1
theorem cw_g0 {C : Cy} (h : ctW C) : ∀ g : Int, 0 ≤ g → g < C 0 1 0 → 0 ≤ C 2 g 0 ∧ C 2 g 0 + 1 < C 0 0 0 := h.2.2.2.2.2.2.1
theorem cw_g1 {C : Cy} (h : ctW C) : ∀ g : Int, 0 ≤ g → g < C 0 1 0 → 0 ≤ C 2 g 1 ∧ C 2 g 1 < 12 := h.2.2.2.2.2.2.2.1
theorem cw_g2 {C : Cy} (h : ctW C) : ∀ g : Int, 0 ≤ g → g < C 0 1 0 → 1 ≤ C 2 g 2 ∧ C 2 g 2 ≤ 99 := h.2.2.2.2.2.2.2.2.1
theorem cw_g3 {C : Cy} (h : ctW C) : ∀ g : Int, 0 ≤ g → g < C 0 1 0 → 1 ≤ C 2 g 3 ∧ C 2 g 3 ≤ 99 := h.2.2.2.2.2.2.2.2.2.1
theorem cw_g4 {C : Cy} (h : ctW C) : ∀ g : Int, 0 ≤ g → g < C 0 1 0 → 1 ≤ C 2 g 4 ∧ C 2 g 4 ≤ 9 := h.2.2.2.2.2.2.2.2.2.2.1
theorem cw_g5 {C : Cy} (h : ctW C) : ∀ g : Int, 0 ≤ g → g < C 0 1 0 → 0 ≤ C 2 g 5 ∧ C 2 g 5 ≤ 99 := h.2.2.2.2.2.2.2.2.2.2.2.1
theorem cw_g6 {C : Cy} (h : ctW C) : ∀ g : Int, 0 ≤ g → g < C 0 1 0 → C 2 g 6 = 0 ∨ C 2 g 6 = 1 := h.2.2.2.2.2.2.2.2.2.2.2.2.1
theorem cw_c0 {C : Cy} (h : ctW C) : ∀ g : Int, 0 ≤ g → g < C 0 2 0 → 0 ≤ C 3 g 0 ∧ C 3 g 0 < C 0 0 0 := h.2.2.2.2.2.2.2.2.2.2.2.2.2.1
theorem cw_c1 {C : Cy} (h : ctW C) : ∀ g : Int, 0 ≤ g → g < C 0 2 0 → 1 ≤ C 3 g 1 ∧ C 3 g 1 ≤ 99 := h.2.2.2.2.2.2.2.2.2.2.2.2.2.2.1
theorem cw_s1 {C : Cy} (h : ctW C) : ∀ g : Int, 0 ≤ g → g < C 0 0 0 → 0 ≤ C 4 g 1 ∧ C 4 g 1 ≤ 999 := h.2.2.2.2.2.2.2.2.2.2.2.2.2.2.2.1
theorem cw_s2 {C : Cy} (h : ctW C) : ∀ g : Int, 0 ≤ g → g < C 0 0 0 → 0 ≤ C 4 g 2 ∧ C 4 g 2 ≤ 99 := h.2.2.2.2.2.2.2.2.2.2.2.2.2.2.2.2.1
theorem cw_o0 {C : Cy} (h : ctW C) : ∀ g : Int, 0 ≤ g → g < C 0 4 0 → 0 ≤ C 5 g 0 ∧ C 5 g 0 < C 0 3 0 := h.2.2.2.2.2.2.2.2.2.2.2.2.2.2.2.2.2.1
theorem cw_o1 {C : Cy} (h : ctW C) : ∀ g : Int, 0 ≤ g → g < C 0 4 0 → 0 ≤ C 5 g 1 ∧ C 5 g 1 < C 0 0 0 := h.2.2.2.2.2.2.2.2.2.2.2.2.2.2.2.2.2.2.1
theorem cw_o2 {C : Cy} (h : ctW C) : ∀ g : Int, 0 ≤ g → g < C 0 4 0 → 0 ≤ C 5 g 2 ∧ C 5 g 2 < 12 := h.2.2.2.2.2.2.2.2.2.2.2.2.2.2.2.2.2.2.2.1
theorem cw_o3 {C : Cy} (h : ctW C) : ∀ g : Int, 0 ≤ g → g < C 0 4 0 → 0 ≤ C 5 g 3 ∧ C 5 g 3 < C 0 0 0 := h.2.2.2.2.2.2.2.2.2.2.2.2.2.2.2.2.2.2.2.2.1
theorem cw_o4 {C : Cy} (h : ctW C) : ∀ g : Int, 0 ≤ g → g < C 0 4 0 → 0 ≤ C 5 g 4 ∧ C 5 g 4 < 12 := h.2.2.2.2.2.2.2.2.2.2.2.2.2.2.2.2.2.2.2.2.2.1
theorem cw_o5 {C : Cy} (h : ctW C) : ∀ g : Int, 0 ≤ g → g < C 0 4 0 → 0 ≤ C 5 g 5 ∧ C 5 g 5 < 24 := h.2.2.2.2.2.2.2.2.2.2.2.2.2.2.2.2.2.2.2.2.2.2.1
theorem cw_k {C : Cy} (h : ctW C) : ∀ g w : Int, 0 ≤ g → g < C 0 3 0 → 0 ≤ w → w < 4 → 1 ≤ C 6 g w ∧ C 6 g w ≤ 99 := h.2.2.2.2.2.2.2.2.2.2.2.2.2.2.2.2.2.2.2.2.2.2.2.1
theorem cw_k4 {C : Cy} (h : ctW C) : ∀ g : Int, 0 ≤ g → g < C 0 3 0 → C 6 g 4 = 0 ∨ (2 ≤ C 6 g 4 ∧ C 6 g 4 ≤ 9) := h.2.2.2.2.2.2.2.2.2.2.2.2.2.2.2.2.2.2.2.2.2.2.2.2.1
theorem cw_k5 {C : Cy} (h : ctW C) : ∀ g : Int, 0 ≤ g → g < C 0 3 0 → C 6 g 5 = 0 ∨ C 6 g 5 = 1 := h.2.2.2.2.2.2.2.2.2.2.2.2.2.2.2.2.2.2.2.2.2.2.2.2.2.1
theorem cw_k6 {C : Cy} (h : ctW C) : ∀ g : Int, 0 ≤ g → g < C 0 3 0 → C 6 g 6 = 0 ∨ C 6 g 6 = 1 := h.2.2.2.2.2.2.2.2.2.2.2.2.2.2.2.2.2.2.2.2.2.2.2.2.2.2
/-- the first that bars the thing in a pose -/
def meetsP (C : Cy) (th : Int → Int) (g p : Int) : Int := if C 1 (C 2 g 0) 0 < pw th p then 1 else if C 2 g 2 < pw th p then 2 else if C 2 g 3 < ph th p then 3 else if C 1 (C 2 g 0 + 1) 0 < pw th p then 4 else if C 1 (C 2 g 0) 0 + C 2 g 2 < pl th p + pw th p then 5 else if C 1 (C 2 g 0 + 1) 0 + C 2 g 2 < pl th p + pw th p then 6 else 0
theorem meetsP_b (C : Cy) (th : Int → Int) (g p : Int) : 0 ≤ meetsP C th g p ∧ meetsP C th g p ≤ 6 := by
  unfold meetsP
  (repeat' split) <;> omega
def barsP (C : Cy) (th : Int → Int) (g : Int) : Int := if th 6 = 1 then min (if th 5 = 1 then min (meetsP C th g 0) (meetsP C th g 1) else meetsP C th g 0) (meetsP C th g 2) else if th 5 = 1 then min (meetsP C th g 0) (meetsP C th g 1) else meetsP C th g 0
def openP (C : Cy) (th : Int → Int) (g : Int) : Prop := C 2 g 6 = 0 ∧ barsP C th g = 0
def fitsR (C : Cy) (th : Int → Int) (r : Int) : Prop := th 1 ≤ C 1 r 0 ∨ (th 5 = 1 ∧ th 2 ≤ C 1 r 0)
def bornP (C : Cy) (th : Int → Int) (r : Int) : Prop := fitsR C th r ∧ ∃ c : Int, 0 ≤ c ∧ c < C 0 2 0 ∧ C 3 c 0 = r ∧ th 3 ≤ C 3 c 1
def hrsP (C : Cy) (th : Int → Int) (g : Int) : Int := Int.tdiv (th 3 + C 2 g 4 - 1) (C 2 g 4)
def payP (C : Cy) (th : Int → Int) (g : Int) : Int := C 2 g 5 + hrsP C th g * C 2 g 4
/-- from a ring to the next, carted or not -/
def stepP (C : Cy) (th : Int → Int) (cart : Int) (r : Int) : Prop := (∃ g : Int, 0 ≤ g ∧ g < C 0 1 0 ∧ C 2 g 0 = r ∧ openP C th g) ∧ (cart ≠ 0 → bornP C th (r + 1))
def suitP (C : Cy) (th : Int → Int) (cart : Int) (r : Int) : Prop := if cart = 0 then fitsR C th r else bornP C th r
/-- how deep it comes -/
def deepP (C : Cy) (th : Int → Int) (cart : Int) (d : Int) : Prop := (¬ suitP C th cart 0 ∧ d = -2) ∨ (suitP C th cart 0 ∧ 0 ≤ d ∧ (∀ r : Int, 0 ≤ r → r < d → stepP C th cart r) ∧ ¬ stepP C th cart d)
theorem deepP_u {C : Cy} {th : Int → Int} {cart d e : Int} (h1 : deepP C th cart d) (h2 : deepP C th cart e) : d = e := by
  rcases h1 with ⟨a, b⟩ | ⟨a, b, c, n⟩ <;> rcases h2 with ⟨a', b'⟩ | ⟨a', b', c', n'⟩
  · omega
  · exact absurd a' a
  · exact absurd a a'
  · rcases Int.lt_trichotomy d e with z | z | z
    · exact absurd (c' d b z) n
    · exact z
    · exact absurd (c e b' z) n'
/-- bread and mouths -/
def sumP (f : Int → Int) : Nat → Int
  | 0 => 0
  | n + 1 => sumP f n + f n
def holdP (C : Cy) (ring : Int) : Int := if sumP (fun r => C 4 r 2) (C 0 0 0).toNat = 0 then 999 else Int.tdiv (sumP (fun r => if ring ≤ r then C 4 r 1 else 0) (C 0 0 0).toNat) (sumP (fun r => C 4 r 2) (C 0 0 0).toNat)

/-! ===== the whole state: of the class, of the reference ===== -/
def rdT (r q : Int) (L : Int → Int) (R : Int → Int → Int) : Prop := (0 ≤ r) ∧ (R r 1 = q) ∧ (R r 11 = r + 1) ∧ (R r 12 = r + 2) ∧ (R r 14 = r + 3) ∧ (0 ≤ q) ∧ (L q = 900) ∧ (L (r + 1) = 35) ∧ (L (r + 2) = 35) ∧ (L (r + 3) = 4)
theorem rd_p {r q : Int} {L : Int → Int} {R : Int → Int → Int} (h : rdT r q L R) : 0 ≤ r := h.1
theorem rd_1 {r q : Int} {L : Int → Int} {R : Int → Int → Int} (h : rdT r q L R) : R r 1 = q := h.2.1
theorem rd_11 {r q : Int} {L : Int → Int} {R : Int → Int → Int} (h : rdT r q L R) : R r 11 = r + 1 := h.2.2.1
theorem rd_12 {r q : Int} {L : Int → Int} {R : Int → Int → Int} (h : rdT r q L R) : R r 12 = r + 2 := h.2.2.2.1
theorem rd_14 {r q : Int} {L : Int → Int} {R : Int → Int → Int} (h : rdT r q L R) : R r 14 = r + 3 := h.2.2.2.2.1
theorem rd_q {r q : Int} {L : Int → Int} {R : Int → Int → Int} (h : rdT r q L R) : 0 ≤ q := h.2.2.2.2.2.1
theorem rd_lq {r q : Int} {L : Int → Int} {R : Int → Int → Int} (h : rdT r q L R) : L q = 900 := h.2.2.2.2.2.2.1
theorem rd_l1 {r q : Int} {L : Int → Int} {R : Int → Int → Int} (h : rdT r q L R) : L (r + 1) = 35 := h.2.2.2.2.2.2.2.1
theorem rd_l2 {r q : Int} {L : Int → Int} {R : Int → Int → Int} (h : rdT r q L R) : L (r + 2) = 35 := h.2.2.2.2.2.2.2.2.1
theorem rd_l3 {r q : Int} {L : Int → Int} {R : Int → Int → Int} (h : rdT r q L R) : L (r + 3) = 4 := h.2.2.2.2.2.2.2.2.2
/-- where the class lies -/
def clT (B a : Int) (L : Int → Int) (R : Int → Int → Int) : Prop := (0 ≤ B) ∧ (a = B + 2 ∨ a = B + 107) ∧ (R B 0 = B + 1) ∧ (R B 2 = a) ∧ (R B 3 = 2 * B + 109 - a) ∧ (R B 4 = B + 212) ∧ (R B 5 = B + 216) ∧ (R B 6 = B + 220) ∧ (R B 7 = B + 237) ∧ (R B 8 = B + 239) ∧ (R B 9 = B + 240) ∧ (R B 10 = B + 257) ∧ (R B 12 = B + 309) ∧ (R B 13 = B + 321) ∧ (R B 14 = B + 325) ∧ (L (B + 1) = 900) ∧ (L (B + 220) = 8) ∧ (L (B + 239) = 6) ∧ (L (B + 257) = 3) ∧ (ctT (B + 2) L R) ∧ (ctT (B + 107) L R) ∧ (rdT (B + 212) (B + 1) L R) ∧ (fnT (B + 216) L R) ∧ (∀ o : Int, 0 ≤ o → o < 8 → R (B + 220) o = B + 220 + 1 + 2 * o ∧ wyT (B + 220 + 1 + 2 * o) L R) ∧ (wyT (B + 237) L R) ∧ (dyT (B + 240) L R) ∧ (∀ i : Int, 0 ≤ i → i < 3 → R (B + 257) i = B + 258 + 17 * i ∧ dyT (B + 258 + 17 * i) L R) ∧ (acT (B + 309) L R) ∧ (tfT (B + 321) L R) ∧ (thT (B + 325) L R)
theorem cl_p {B a : Int} {L : Int → Int} {R : Int → Int → Int} (h : clT B a L R) : 0 ≤ B := h.1
theorem cl_a {B a : Int} {L : Int → Int} {R : Int → Int → Int} (h : clT B a L R) : a = B + 2 ∨ a = B + 107 := h.2.1
theorem cl_0 {B a : Int} {L : Int → Int} {R : Int → Int → Int} (h : clT B a L R) : R B 0 = B + 1 := h.2.2.1
theorem cl_2 {B a : Int} {L : Int → Int} {R : Int → Int → Int} (h : clT B a L R) : R B 2 = a := h.2.2.2.1
theorem cl_3 {B a : Int} {L : Int → Int} {R : Int → Int → Int} (h : clT B a L R) : R B 3 = 2 * B + 109 - a := h.2.2.2.2.1
theorem cl_4 {B a : Int} {L : Int → Int} {R : Int → Int → Int} (h : clT B a L R) : R B 4 = B + 212 := h.2.2.2.2.2.1
theorem cl_5 {B a : Int} {L : Int → Int} {R : Int → Int → Int} (h : clT B a L R) : R B 5 = B + 216 := h.2.2.2.2.2.2.1
theorem cl_6 {B a : Int} {L : Int → Int} {R : Int → Int → Int} (h : clT B a L R) : R B 6 = B + 220 := h.2.2.2.2.2.2.2.1
theorem cl_7 {B a : Int} {L : Int → Int} {R : Int → Int → Int} (h : clT B a L R) : R B 7 = B + 237 := h.2.2.2.2.2.2.2.2.1
theorem cl_8 {B a : Int} {L : Int → Int} {R : Int → Int → Int} (h : clT B a L R) : R B 8 = B + 239 := h.2.2.2.2.2.2.2.2.2.1
theorem cl_9 {B a : Int} {L : Int → Int} {R : Int → Int → Int} (h : clT B a L R) : R B 9 = B + 240 := h.2.2.2.2.2.2.2.2.2.2.1
theorem cl_10 {B a : Int} {L : Int → Int} {R : Int → Int → Int} (h : clT B a L R) : R B 10 = B + 257 := h.2.2.2.2.2.2.2.2.2.2.2.1
theorem cl_12 {B a : Int} {L : Int → Int} {R : Int → Int → Int} (h : clT B a L R) : R B 12 = B + 309 := h.2.2.2.2.2.2.2.2.2.2.2.2.1
theorem cl_13 {B a : Int} {L : Int → Int} {R : Int → Int → Int} (h : clT B a L R) : R B 13 = B + 321 := h.2.2.2.2.2.2.2.2.2.2.2.2.2.1
theorem cl_14 {B a : Int} {L : Int → Int} {R : Int → Int → Int} (h : clT B a L R) : R B 14 = B + 325 := h.2.2.2.2.2.2.2.2.2.2.2.2.2.2.1
theorem cl_l1 {B a : Int} {L : Int → Int} {R : Int → Int → Int} (h : clT B a L R) : L (B + 1) = 900 := h.2.2.2.2.2.2.2.2.2.2.2.2.2.2.2.1
theorem cl_l220 {B a : Int} {L : Int → Int} {R : Int → Int → Int} (h : clT B a L R) : L (B + 220) = 8 := h.2.2.2.2.2.2.2.2.2.2.2.2.2.2.2.2.1
theorem cl_l239 {B a : Int} {L : Int → Int} {R : Int → Int → Int} (h : clT B a L R) : L (B + 239) = 6 := h.2.2.2.2.2.2.2.2.2.2.2.2.2.2.2.2.2.1
theorem cl_l257 {B a : Int} {L : Int → Int} {R : Int → Int → Int} (h : clT B a L R) : L (B + 257) = 3 := h.2.2.2.2.2.2.2.2.2.2.2.2.2.2.2.2.2.2.1
theorem cl_c1 {B a : Int} {L : Int → Int} {R : Int → Int → Int} (h : clT B a L R) : ctT (B + 2) L R := h.2.2.2.2.2.2.2.2.2.2.2.2.2.2.2.2.2.2.2.1
theorem cl_c2 {B a : Int} {L : Int → Int} {R : Int → Int → Int} (h : clT B a L R) : ctT (B + 107) L R := h.2.2.2.2.2.2.2.2.2.2.2.2.2.2.2.2.2.2.2.2.1
theorem cl_rd {B a : Int} {L : Int → Int} {R : Int → Int → Int} (h : clT B a L R) : rdT (B + 212) (B + 1) L R := h.2.2.2.2.2.2.2.2.2.2.2.2.2.2.2.2.2.2.2.2.2.1
theorem cl_fn {B a : Int} {L : Int → Int} {R : Int → Int → Int} (h : clT B a L R) : fnT (B + 216) L R := h.2.2.2.2.2.2.2.2.2.2.2.2.2.2.2.2.2.2.2.2.2.2.1
theorem cl_wy {B a : Int} {L : Int → Int} {R : Int → Int → Int} (h : clT B a L R) : ∀ o : Int, 0 ≤ o → o < 8 → R (B + 220) o = B + 220 + 1 + 2 * o ∧ wyT (B + 220 + 1 + 2 * o) L R := h.2.2.2.2.2.2.2.2.2.2.2.2.2.2.2.2.2.2.2.2.2.2.2.1
theorem cl_as {B a : Int} {L : Int → Int} {R : Int → Int → Int} (h : clT B a L R) : wyT (B + 237) L R := h.2.2.2.2.2.2.2.2.2.2.2.2.2.2.2.2.2.2.2.2.2.2.2.2.1
theorem cl_dy {B a : Int} {L : Int → Int} {R : Int → Int → Int} (h : clT B a L R) : dyT (B + 240) L R := h.2.2.2.2.2.2.2.2.2.2.2.2.2.2.2.2.2.2.2.2.2.2.2.2.2.1
theorem cl_mk {B a : Int} {L : Int → Int} {R : Int → Int → Int} (h : clT B a L R) : ∀ i : Int, 0 ≤ i → i < 3 → R (B + 257) i = B + 258 + 17 * i ∧ dyT (B + 258 + 17 * i) L R := h.2.2.2.2.2.2.2.2.2.2.2.2.2.2.2.2.2.2.2.2.2.2.2.2.2.2.1
theorem cl_ac {B a : Int} {L : Int → Int} {R : Int → Int → Int} (h : clT B a L R) : acT (B + 309) L R := h.2.2.2.2.2.2.2.2.2.2.2.2.2.2.2.2.2.2.2.2.2.2.2.2.2.2.2.1
theorem cl_tf {B a : Int} {L : Int → Int} {R : Int → Int → Int} (h : clT B a L R) : tfT (B + 321) L R := h.2.2.2.2.2.2.2.2.2.2.2.2.2.2.2.2.2.2.2.2.2.2.2.2.2.2.2.2.1
theorem cl_rm {B a : Int} {L : Int → Int} {R : Int → Int → Int} (h : clT B a L R) : thT (B + 325) L R := h.2.2.2.2.2.2.2.2.2.2.2.2.2.2.2.2.2.2.2.2.2.2.2.2.2.2.2.2.2
theorem cl_ct {B a : Int} {L : Int → Int} {R : Int → Int → Int} (h : clT B a L R) : ctT a L R := by
  rcases cl_a h with z | z
  · rw [z]; exact cl_c1 h
  · rw [z]; exact cl_c2 h
/-- acts, as the gates before them -/
def acX (A : Int) (C : Cy) (n : Int) (H : Int → Int → Int → Int) (HN : Int → Int) (F E : Int → Int → Int) : Prop := F A 0 = n ∧ ∀ i : Int, 0 ≤ i → i < n → (0 ≤ E (A + 2 + i) 0 ∧ E (A + 2 + i) 0 < 11) ∧ E (A + 2 + i) 1 = HN i ∧ ∀ q w : Int, 0 ≤ q → q < HN i → 0 ≤ w → w < 7 → H i q w = if q = E (A + 2 + i) 0 ∧ w = 2 then E (A + 2 + i) 2 else if q = E (A + 2 + i) 0 ∧ w = 3 then E (A + 2 + i) 3 else if q = E (A + 2 + i) 0 ∧ w = 6 then E (A + 2 + i) 4 else if i + 1 = n then C 2 q w else H (i + 1) q w
/-- what the class says -/
def clM (B a : Int) (C : Cy) (tp : Int → Int) (fd tr fa pl : Int) (D : Int → Int → Int) (k : Int) (M : Int → Int → Int → Int) (n : Int) (H : Int → Int → Int → Int) (HN : Int → Int) (R F E : Int → Int → Int) : Prop := (ctM a C F E) ∧ (F B 1 = fd) ∧ (∀ i : Int, 0 ≤ i → i < fd → E (B + 1) i = tp i) ∧ (F B 15 = fa) ∧ (F B 17 = tr) ∧ (tr = 4 → F B 16 = pl) ∧ (∀ o : Int, 0 ≤ o → o < C 0 4 0 → wyM (B + 220 + 1 + 2 * o) (bO C o) (gO C o) F E) ∧ (0 < C 0 4 0 → R (B + 216) 0 = a) ∧ (R (B + 240) 8 = a) ∧ (R (B + 240) 9 = B + 220) ∧ (F (B + 240) 0 = D 10 0) ∧ (F (B + 240) 1 = D 10 1) ∧ (0 < C 0 0 0 → dyX (B + 240) C D F E) ∧ (F B 11 = k) ∧ (∀ i : Int, 0 ≤ i → i < k → R (B + 258 + 17 * i) 8 = a ∧ R (B + 258 + 17 * i) 9 = B + 220 ∧ dyX (B + 258 + 17 * i) C (M i) F E) ∧ (acX (B + 309) C n H HN F E) ∧ (F (B + 325) 3 = 0 ∧ F (B + 325) 4 = 0 ∧ F (B + 325) 5 = 0 ∧ F (B + 325) 6 = 0)
theorem cx_c {B a : Int} {C : Cy} {tp : Int → Int} {fd tr fa pl : Int} {D : Int → Int → Int} {k : Int} {M : Int → Int → Int → Int} {n : Int} {H : Int → Int → Int → Int} {HN : Int → Int} {R F E : Int → Int → Int} (h : clM B a C tp fd tr fa pl D k M n H HN R F E) : ctM a C F E := h.1
theorem cx_1 {B a : Int} {C : Cy} {tp : Int → Int} {fd tr fa pl : Int} {D : Int → Int → Int} {k : Int} {M : Int → Int → Int → Int} {n : Int} {H : Int → Int → Int → Int} {HN : Int → Int} {R F E : Int → Int → Int} (h : clM B a C tp fd tr fa pl D k M n H HN R F E) : F B 1 = fd := h.2.1
theorem cx_t {B a : Int} {C : Cy} {tp : Int → Int} {fd tr fa pl : Int} {D : Int → Int → Int} {k : Int} {M : Int → Int → Int → Int} {n : Int} {H : Int → Int → Int → Int} {HN : Int → Int} {R F E : Int → Int → Int} (h : clM B a C tp fd tr fa pl D k M n H HN R F E) : ∀ i : Int, 0 ≤ i → i < fd → E (B + 1) i = tp i := h.2.2.1
theorem cx_15 {B a : Int} {C : Cy} {tp : Int → Int} {fd tr fa pl : Int} {D : Int → Int → Int} {k : Int} {M : Int → Int → Int → Int} {n : Int} {H : Int → Int → Int → Int} {HN : Int → Int} {R F E : Int → Int → Int} (h : clM B a C tp fd tr fa pl D k M n H HN R F E) : F B 15 = fa := h.2.2.2.1
theorem cx_17 {B a : Int} {C : Cy} {tp : Int → Int} {fd tr fa pl : Int} {D : Int → Int → Int} {k : Int} {M : Int → Int → Int → Int} {n : Int} {H : Int → Int → Int → Int} {HN : Int → Int} {R F E : Int → Int → Int} (h : clM B a C tp fd tr fa pl D k M n H HN R F E) : F B 17 = tr := h.2.2.2.2.1
theorem cx_16 {B a : Int} {C : Cy} {tp : Int → Int} {fd tr fa pl : Int} {D : Int → Int → Int} {k : Int} {M : Int → Int → Int → Int} {n : Int} {H : Int → Int → Int → Int} {HN : Int → Int} {R F E : Int → Int → Int} (h : clM B a C tp fd tr fa pl D k M n H HN R F E) : tr = 4 → F B 16 = pl := h.2.2.2.2.2.1
theorem cx_w {B a : Int} {C : Cy} {tp : Int → Int} {fd tr fa pl : Int} {D : Int → Int → Int} {k : Int} {M : Int → Int → Int → Int} {n : Int} {H : Int → Int → Int → Int} {HN : Int → Int} {R F E : Int → Int → Int} (h : clM B a C tp fd tr fa pl D k M n H HN R F E) : ∀ o : Int, 0 ≤ o → o < C 0 4 0 → wyM (B + 220 + 1 + 2 * o) (bO C o) (gO C o) F E := h.2.2.2.2.2.2.1
theorem cx_f {B a : Int} {C : Cy} {tp : Int → Int} {fd tr fa pl : Int} {D : Int → Int → Int} {k : Int} {M : Int → Int → Int → Int} {n : Int} {H : Int → Int → Int → Int} {HN : Int → Int} {R F E : Int → Int → Int} (h : clM B a C tp fd tr fa pl D k M n H HN R F E) : 0 < C 0 4 0 → R (B + 216) 0 = a := h.2.2.2.2.2.2.2.1
theorem cx_d8 {B a : Int} {C : Cy} {tp : Int → Int} {fd tr fa pl : Int} {D : Int → Int → Int} {k : Int} {M : Int → Int → Int → Int} {n : Int} {H : Int → Int → Int → Int} {HN : Int → Int} {R F E : Int → Int → Int} (h : clM B a C tp fd tr fa pl D k M n H HN R F E) : R (B + 240) 8 = a := h.2.2.2.2.2.2.2.2.1
theorem cx_d9 {B a : Int} {C : Cy} {tp : Int → Int} {fd tr fa pl : Int} {D : Int → Int → Int} {k : Int} {M : Int → Int → Int → Int} {n : Int} {H : Int → Int → Int → Int} {HN : Int → Int} {R F E : Int → Int → Int} (h : clM B a C tp fd tr fa pl D k M n H HN R F E) : R (B + 240) 9 = B + 220 := h.2.2.2.2.2.2.2.2.2.1
theorem cx_d0 {B a : Int} {C : Cy} {tp : Int → Int} {fd tr fa pl : Int} {D : Int → Int → Int} {k : Int} {M : Int → Int → Int → Int} {n : Int} {H : Int → Int → Int → Int} {HN : Int → Int} {R F E : Int → Int → Int} (h : clM B a C tp fd tr fa pl D k M n H HN R F E) : F (B + 240) 0 = D 10 0 := h.2.2.2.2.2.2.2.2.2.2.1
theorem cx_d1 {B a : Int} {C : Cy} {tp : Int → Int} {fd tr fa pl : Int} {D : Int → Int → Int} {k : Int} {M : Int → Int → Int → Int} {n : Int} {H : Int → Int → Int → Int} {HN : Int → Int} {R F E : Int → Int → Int} (h : clM B a C tp fd tr fa pl D k M n H HN R F E) : F (B + 240) 1 = D 10 1 := h.2.2.2.2.2.2.2.2.2.2.2.1
theorem cx_d {B a : Int} {C : Cy} {tp : Int → Int} {fd tr fa pl : Int} {D : Int → Int → Int} {k : Int} {M : Int → Int → Int → Int} {n : Int} {H : Int → Int → Int → Int} {HN : Int → Int} {R F E : Int → Int → Int} (h : clM B a C tp fd tr fa pl D k M n H HN R F E) : 0 < C 0 0 0 → dyX (B + 240) C D F E := h.2.2.2.2.2.2.2.2.2.2.2.2.1
theorem cx_11 {B a : Int} {C : Cy} {tp : Int → Int} {fd tr fa pl : Int} {D : Int → Int → Int} {k : Int} {M : Int → Int → Int → Int} {n : Int} {H : Int → Int → Int → Int} {HN : Int → Int} {R F E : Int → Int → Int} (h : clM B a C tp fd tr fa pl D k M n H HN R F E) : F B 11 = k := h.2.2.2.2.2.2.2.2.2.2.2.2.2.1
theorem cx_m {B a : Int} {C : Cy} {tp : Int → Int} {fd tr fa pl : Int} {D : Int → Int → Int} {k : Int} {M : Int → Int → Int → Int} {n : Int} {H : Int → Int → Int → Int} {HN : Int → Int} {R F E : Int → Int → Int} (h : clM B a C tp fd tr fa pl D k M n H HN R F E) : ∀ i : Int, 0 ≤ i → i < k → R (B + 258 + 17 * i) 8 = a ∧ R (B + 258 + 17 * i) 9 = B + 220 ∧ dyX (B + 258 + 17 * i) C (M i) F E := h.2.2.2.2.2.2.2.2.2.2.2.2.2.2.1
theorem cx_a {B a : Int} {C : Cy} {tp : Int → Int} {fd tr fa pl : Int} {D : Int → Int → Int} {k : Int} {M : Int → Int → Int → Int} {n : Int} {H : Int → Int → Int → Int} {HN : Int → Int} {R F E : Int → Int → Int} (h : clM B a C tp fd tr fa pl D k M n H HN R F E) : acX (B + 309) C n H HN F E := h.2.2.2.2.2.2.2.2.2.2.2.2.2.2.2.1
theorem cx_r {B a : Int} {C : Cy} {tp : Int → Int} {fd tr fa pl : Int} {D : Int → Int → Int} {k : Int} {M : Int → Int → Int → Int} {n : Int} {H : Int → Int → Int → Int} {HN : Int → Int} {R F E : Int → Int → Int} (h : clM B a C tp fd tr fa pl D k M n H HN R F E) : F (B + 325) 3 = 0 ∧ F (B + 325) 4 = 0 ∧ F (B + 325) 5 = 0 ∧ F (B + 325) 6 = 0 := h.2.2.2.2.2.2.2.2.2.2.2.2.2.2.2.2
/-- a mark of the reference -/
def kpM (m i : Int) (D E : Int → Int → Int) : Prop := E (m + 7) (671 * i + 670) = D 10 0 ∧ (∀ f l : Int, 0 ≤ f → f < 9 → 0 ≤ l → l < D 10 1 → E (m + 7) (671 * i + (9 * l + f)) = D (cl f) l) ∧ (∀ g : Int, 0 ≤ g → g < 11 → E (m + 7) (671 * i + (648 + g)) = D 11 g ∧ E (m + 7) (671 * i + (659 + g)) = D 12 g)
def haM (m n : Int) (H : Int → Int → Int → Int) (HN : Int → Int) (F E : Int → Int → Int) : Prop := F m 44 = n ∧ ∀ i : Int, 0 ≤ i → i < n → E (m + 15) i = HN i ∧ ∀ q w : Int, 0 ≤ q → q < HN i → 0 ≤ w → w < 7 → E (m + 14) (77 * i + (7 * q + w)) = H i q w
/-- what the reference says -/
def rfM (m c : Int) (C : Cy) (tp : Int → Int) (fd tr fa pl : Int) (D : Int → Int → Int) (k : Int) (M : Int → Int → Int → Int) (n : Int) (H : Int → Int → Int → Int) (HN : Int → Int) (L : Int → Int) (R F E : Int → Int → Int) : Prop := (mtT m L R) ∧ (F m 6 = fd) ∧ (∀ i : Int, 0 ≤ i → i < fd → E (m + 1) i = wB (tp i)) ∧ (F m 13 = fa) ∧ (F m 1 = tr) ∧ (F m 2 = if tr = 4 then pl else -1) ∧ ((R m 3 = -1 ∧ noC C) ∨ (0 < C 0 0 0 ∧ dmS m c C L R F E ∧ dmM m C D F E)) ∧ (F m 39 = k) ∧ (∀ i : Int, 0 ≤ i → i < k → kpM m i (M i) E) ∧ (haM m n H HN F E)
theorem rx_t {m c : Int} {C : Cy} {tp : Int → Int} {fd tr fa pl : Int} {D : Int → Int → Int} {k : Int} {M : Int → Int → Int → Int} {n : Int} {H : Int → Int → Int → Int} {HN : Int → Int} {L : Int → Int} {R F E : Int → Int → Int} (h : rfM m c C tp fd tr fa pl D k M n H HN L R F E) : mtT m L R := h.1
theorem rx_6 {m c : Int} {C : Cy} {tp : Int → Int} {fd tr fa pl : Int} {D : Int → Int → Int} {k : Int} {M : Int → Int → Int → Int} {n : Int} {H : Int → Int → Int → Int} {HN : Int → Int} {L : Int → Int} {R F E : Int → Int → Int} (h : rfM m c C tp fd tr fa pl D k M n H HN L R F E) : F m 6 = fd := h.2.1
theorem rx_tp {m c : Int} {C : Cy} {tp : Int → Int} {fd tr fa pl : Int} {D : Int → Int → Int} {k : Int} {M : Int → Int → Int → Int} {n : Int} {H : Int → Int → Int → Int} {HN : Int → Int} {L : Int → Int} {R F E : Int → Int → Int} (h : rfM m c C tp fd tr fa pl D k M n H HN L R F E) : ∀ i : Int, 0 ≤ i → i < fd → E (m + 1) i = wB (tp i) := h.2.2.1
theorem rx_13 {m c : Int} {C : Cy} {tp : Int → Int} {fd tr fa pl : Int} {D : Int → Int → Int} {k : Int} {M : Int → Int → Int → Int} {n : Int} {H : Int → Int → Int → Int} {HN : Int → Int} {L : Int → Int} {R F E : Int → Int → Int} (h : rfM m c C tp fd tr fa pl D k M n H HN L R F E) : F m 13 = fa := h.2.2.2.1
theorem rx_1 {m c : Int} {C : Cy} {tp : Int → Int} {fd tr fa pl : Int} {D : Int → Int → Int} {k : Int} {M : Int → Int → Int → Int} {n : Int} {H : Int → Int → Int → Int} {HN : Int → Int} {L : Int → Int} {R F E : Int → Int → Int} (h : rfM m c C tp fd tr fa pl D k M n H HN L R F E) : F m 1 = tr := h.2.2.2.2.1
theorem rx_2 {m c : Int} {C : Cy} {tp : Int → Int} {fd tr fa pl : Int} {D : Int → Int → Int} {k : Int} {M : Int → Int → Int → Int} {n : Int} {H : Int → Int → Int → Int} {HN : Int → Int} {L : Int → Int} {R F E : Int → Int → Int} (h : rfM m c C tp fd tr fa pl D k M n H HN L R F E) : F m 2 = if tr = 4 then pl else -1 := h.2.2.2.2.2.1
theorem rx_c {m c : Int} {C : Cy} {tp : Int → Int} {fd tr fa pl : Int} {D : Int → Int → Int} {k : Int} {M : Int → Int → Int → Int} {n : Int} {H : Int → Int → Int → Int} {HN : Int → Int} {L : Int → Int} {R F E : Int → Int → Int} (h : rfM m c C tp fd tr fa pl D k M n H HN L R F E) : (R m 3 = -1 ∧ noC C) ∨ (0 < C 0 0 0 ∧ dmS m c C L R F E ∧ dmM m C D F E) := h.2.2.2.2.2.2.1
theorem rx_39 {m c : Int} {C : Cy} {tp : Int → Int} {fd tr fa pl : Int} {D : Int → Int → Int} {k : Int} {M : Int → Int → Int → Int} {n : Int} {H : Int → Int → Int → Int} {HN : Int → Int} {L : Int → Int} {R F E : Int → Int → Int} (h : rfM m c C tp fd tr fa pl D k M n H HN L R F E) : F m 39 = k := h.2.2.2.2.2.2.2.1
theorem rx_k {m c : Int} {C : Cy} {tp : Int → Int} {fd tr fa pl : Int} {D : Int → Int → Int} {k : Int} {M : Int → Int → Int → Int} {n : Int} {H : Int → Int → Int → Int} {HN : Int → Int} {L : Int → Int} {R F E : Int → Int → Int} (h : rfM m c C tp fd tr fa pl D k M n H HN L R F E) : ∀ i : Int, 0 ≤ i → i < k → kpM m i (M i) E := h.2.2.2.2.2.2.2.2.1
theorem rx_a {m c : Int} {C : Cy} {tp : Int → Int} {fd tr fa pl : Int} {D : Int → Int → Int} {k : Int} {M : Int → Int → Int → Int} {n : Int} {H : Int → Int → Int → Int} {HN : Int → Int} {L : Int → Int} {R F E : Int → Int → Int} (h : rfM m c C tp fd tr fa pl D k M n H HN L R F E) : haM m n H HN F E := h.2.2.2.2.2.2.2.2.2
/-- a state that can be -/
def dyW (C : Cy) (D : Int → Int → Int) : Prop := dWf C D ∧ dK D (2000 * D 10 0) ∧ D 10 1 = dwD C 10 1 ∧ ∀ j : Int, D 0 j = dwD C 0 j
def stW (C : Cy) (tp : Int → Int) (fd tr : Int) (D : Int → Int → Int) (k : Int) (M : Int → Int → Int → Int) (n : Int) (H : Int → Int → Int → Int) (HN : Int → Int) : Prop := (ctW C) ∧ ((noC C ∧ D 10 0 = 0 ∧ D 10 1 = 0 ∧ k = 0 ∧ n = 0) ∨ 0 < C 0 0 0) ∧ (0 ≤ fd ∧ fd ≤ 900) ∧ (∀ i : Int, 0 ≤ i → i < fd → 0 ≤ tp i ∧ tp i ≤ 255) ∧ (dyW C D) ∧ (0 ≤ k ∧ k ≤ 3) ∧ (∀ i : Int, 0 ≤ i → i < k → dyW C (M i)) ∧ (0 ≤ n ∧ n ≤ 10) ∧ (∀ i : Int, 0 ≤ i → i < n → ctW (unC C (H i) (HN i)) ∧ HN i ≤ (if i + 1 = n then C 0 1 0 else HN (i + 1)))
theorem sw_w {C : Cy} {tp : Int → Int} {fd tr : Int} {D : Int → Int → Int} {k : Int} {M : Int → Int → Int → Int} {n : Int} {H : Int → Int → Int → Int} {HN : Int → Int} (h : stW C tp fd tr D k M n H HN) : ctW C := h.1
theorem sw_c {C : Cy} {tp : Int → Int} {fd tr : Int} {D : Int → Int → Int} {k : Int} {M : Int → Int → Int → Int} {n : Int} {H : Int → Int → Int → Int} {HN : Int → Int} (h : stW C tp fd tr D k M n H HN) : (noC C ∧ D 10 0 = 0 ∧ D 10 1 = 0 ∧ k = 0 ∧ n = 0) ∨ 0 < C 0 0 0 := h.2.1
theorem sw_f {C : Cy} {tp : Int → Int} {fd tr : Int} {D : Int → Int → Int} {k : Int} {M : Int → Int → Int → Int} {n : Int} {H : Int → Int → Int → Int} {HN : Int → Int} (h : stW C tp fd tr D k M n H HN) : 0 ≤ fd ∧ fd ≤ 900 := h.2.2.1
theorem sw_tp {C : Cy} {tp : Int → Int} {fd tr : Int} {D : Int → Int → Int} {k : Int} {M : Int → Int → Int → Int} {n : Int} {H : Int → Int → Int → Int} {HN : Int → Int} (h : stW C tp fd tr D k M n H HN) : ∀ i : Int, 0 ≤ i → i < fd → 0 ≤ tp i ∧ tp i ≤ 255 := h.2.2.2.1
theorem sw_d {C : Cy} {tp : Int → Int} {fd tr : Int} {D : Int → Int → Int} {k : Int} {M : Int → Int → Int → Int} {n : Int} {H : Int → Int → Int → Int} {HN : Int → Int} (h : stW C tp fd tr D k M n H HN) : dyW C D := h.2.2.2.2.1
theorem sw_k {C : Cy} {tp : Int → Int} {fd tr : Int} {D : Int → Int → Int} {k : Int} {M : Int → Int → Int → Int} {n : Int} {H : Int → Int → Int → Int} {HN : Int → Int} (h : stW C tp fd tr D k M n H HN) : 0 ≤ k ∧ k ≤ 3 := h.2.2.2.2.2.1
theorem sw_m {C : Cy} {tp : Int → Int} {fd tr : Int} {D : Int → Int → Int} {k : Int} {M : Int → Int → Int → Int} {n : Int} {H : Int → Int → Int → Int} {HN : Int → Int} (h : stW C tp fd tr D k M n H HN) : ∀ i : Int, 0 ≤ i → i < k → dyW C (M i) := h.2.2.2.2.2.2.1
theorem sw_n {C : Cy} {tp : Int → Int} {fd tr : Int} {D : Int → Int → Int} {k : Int} {M : Int → Int → Int → Int} {n : Int} {H : Int → Int → Int → Int} {HN : Int → Int} (h : stW C tp fd tr D k M n H HN) : 0 ≤ n ∧ n ≤ 10 := h.2.2.2.2.2.2.2.1
theorem sw_h {C : Cy} {tp : Int → Int} {fd tr : Int} {D : Int → Int → Int} {k : Int} {M : Int → Int → Int → Int} {n : Int} {H : Int → Int → Int → Int} {HN : Int → Int} (h : stW C tp fd tr D k M n H HN) : ∀ i : Int, 0 ≤ i → i < n → ctW (unC C (H i) (HN i)) ∧ HN i ≤ (if i + 1 = n then C 0 1 0 else HN (i + 1)) := h.2.2.2.2.2.2.2.2
/-- what a question may change in the class -/
def qX (B a t : Int) (R R' F F' E E' : Int → Int → Int) : Prop := t ≠ 4 ∧ (∀ b j : Int, (b ≠ B + 216 ∨ j ≠ 0) → R' b j = R b j) ∧ (R' (B + 216) 0 = R (B + 216) 0 ∨ R' (B + 216) 0 = a) ∧ (∀ b j : Int, (b < B + 212 ∨ B + 220 ≤ b) → (b < B + 237 ∨ B + 240 ≤ b) → (b < B + 321 ∨ B + 325 ≤ b) → (b ≠ B ∨ j ≠ 17) → F' b j = F b j) ∧ F' B 17 = t ∧ (∀ b j : Int, (b < B + 212 ∨ B + 220 ≤ b) → (b < B + 237 ∨ B + 240 ≤ b) → (b < B + 321 ∨ B + 329 ≤ b) → E' b j = E b j)
theorem qX.s {B a t : Int} {R F E : Int → Int → Int} (h : t ≠ 4) : qX B a t R R F (up F B 17 t) E E := ⟨h, fun _ _ _ => rfl, Or.inl rfl, fun b j _ _ _ z => up_ne (by omega), up_eq, fun _ _ _ _ _ => rfl⟩
/-- what a question may change in the reference -/
def qM (m t w : Int) (F F' E E' : Int → Int → Int) : Prop := t ≠ 4 ∧ (∀ b j : Int, (b ≠ m ∨ (3 ≤ j ∧ j < 18) ∨ 31 ≤ j) → F' b j = F b j) ∧ F' m 0 = 0 ∧ F' m 1 = t ∧ F' m 2 = w ∧ (∀ b j : Int, (b ≤ m + 2 ∨ m + 6 ≤ b) → b ≠ m + 12 → b ≠ m + 13 → E' b j = E b j)
theorem dyX.fa {d : Int} {C : Cy} {D F F' E E' : Int → Int → Int} (h : dyX d C D F E) (h1 : ∀ j : Int, F' d j = F d j) (h2 : ∀ b j : Int, d ≤ b → b < d + 17 → E' b j = E b j) : dyX d C D F' E' := by
  obtain ⟨x0, x1, x2, x3, x4, x5⟩ := h
  refine ⟨(h1 _).trans x0, (h1 _).trans x1, fun w l a b c e => (h2 _ _ (by omega) (by omega)).trans (x2 w l a b c e), fun c a b => ?_, fun g a b => ?_, fun g a b => ?_⟩
  · rw [h2 _ _ (by omega) (by omega)]; exact x3 c a b
  · rw [h2 _ _ (by omega) (by omega)]; exact x4 g a b
  · rw [h2 _ _ (by omega) (by omega), h2 _ _ (by omega) (by omega)]; exact x5 g a b
theorem acX.fa {A n : Int} {C : Cy} {H : Int → Int → Int → Int} {HN : Int → Int} {F F' E E' : Int → Int → Int} (h : acX A C n H HN F E) (hn : n ≤ 10) (h1 : F' A 0 = F A 0) (h2 : ∀ b j : Int, A + 2 ≤ b → b < A + 12 → E' b j = E b j) : acX A C n H HN F' E' := by
  refine ⟨h1.trans h.1, fun i a b => ?_⟩
  have e : ∀ j : Int, E' (A + 2 + i) j = E (A + 2 + i) j := fun j => h2 _ _ (by omega) (by omega)
  simp only [e]
  exact h.2 i a b
theorem ctM.fa {a : Int} {C : Cy} {F F' E E' : Int → Int → Int} (h : ctM a C F E) (hW : ctW C) (h1 : ∀ b j : Int, a ≤ b → b < a + 105 → F' b j = F b j) (h2 : ∀ b j : Int, a ≤ b → b < a + 105 → E' b j = E b j) : ctM a C F' E' := by
  have b0 := cw_0 hW
  have b1 := cw_1 hW
  have b2 := cw_2 hW
  have b3 := cw_3 hW
  have b4 := cw_4 hW
  have th : ∀ (t : Int) (th : Int → Int), a ≤ t → t + 4 ≤ a + 105 → thM t th F E → thM t th F' E' := fun t th u v w => by
    obtain ⟨y0, y1, y2, y3, y4, y5, y6, y7, y8, y9, y10, y11, y12⟩ := w
    exact ⟨(h2 _ _ (by omega) (by omega)).trans y0, (h2 _ _ (by omega) (by omega)).trans y1, (h2 _ _ (by omega) (by omega)).trans y2, (h2 _ _ (by omega) (by omega)).trans y3, (h2 _ _ (by omega) (by omega)).trans y4, (h2 _ _ (by omega) (by omega)).trans y5, (h2 _ _ (by omega) (by omega)).trans y6, (h2 _ _ (by omega) (by omega)).trans y7, (h2 _ _ (by omega) (by omega)).trans y8, (h1 _ _ (by omega) (by omega)).trans y9, (h1 _ _ (by omega) (by omega)).trans y10, (h1 _ _ (by omega) (by omega)).trans y11, (h1 _ _ (by omega) (by omega)).trans y12⟩
  exact ⟨(h1 _ _ (by omega) (by omega)).trans (cm_0 h), (h1 _ _ (by omega) (by omega)).trans (cm_1 h), (h1 _ _ (by omega) (by omega)).trans (cm_2 h), (h1 _ _ (by omega) (by omega)).trans (cm_3 h), (h1 _ _ (by omega) (by omega)).trans (cm_4 h), fun r x z => (h2 _ _ (by omega) (by omega)).trans (cm_w h r x z), fun q z x1 x2 x3 x4 => (h2 _ _ (by omega) (by omega)).trans (cm_g h q z x1 x2 x3 x4), fun q z x1 x2 x3 x4 => (h2 _ _ (by omega) (by omega)).trans (cm_c h q z x1 x2 x3 x4), fun q z x1 x2 x3 x4 => (h2 _ _ (by omega) (by omega)).trans (cm_s h q z x1 x2 x3 x4), fun q z x1 x2 x3 x4 => (h2 _ _ (by omega) (by omega)).trans (cm_o h q z x1 x2 x3 x4), fun q x1 x2 => th _ _ (by omega) (by omega) (cm_wh h q x1 x2), fun q x1 x2 => th _ _ (by omega) (by omega) (cm_pt h q x1 x2)⟩
theorem wyM.fa {w : Int} {b : Int → Int} {gs : Nat → Int} {F F' E E' : Int → Int → Int} (h : wyM w b gs F E) (h1 : ∀ j : Int, F' w j = F w j) (h2 : ∀ j : Int, E' (w + 1) j = E (w + 1) j) : wyM w b gs F' E' := by
  obtain ⟨z1, z2⟩ := h
  refine ⟨(h1 _).trans z1, fun q => ?_⟩
  obtain ⟨y1, y2, y3, y4, y5, y6⟩ := z2 q
  exact ⟨(h1 _).trans y1, (h1 _).trans y2, (h1 _).trans y3, (h1 _).trans y4, (h1 _).trans y5, fun x xx => (h2 _).trans (y6 x xx)⟩
section STATE
variable {L : Int → Int} {R R' F F' E E' : Int → Int → Int} {B a m c fd tr fa pl k n t : Int} {C : Cy} {tp : Int → Int} {D : Int → Int → Int} {M H : Int → Int → Int → Int} {HN : Int → Int}
theorem clT.fR (h : clT B a L R) (h2 : ∀ b j : Int, B ≤ b → b < B + 329 → (b ≠ B + 216 ∨ j ≠ 0) → (b ≠ B + 240 ∨ (j ≠ 8 ∧ j ≠ 9)) → ((b ≠ B + 258 ∧ b ≠ B + 275 ∧ b ≠ B + 292) ∨ (j ≠ 8 ∧ j ≠ 9)) → R' b j = R b j) : clT B a L R' := by
  exact ⟨cl_p h, cl_a h, (h2 _ _ (by omega) (by omega) (by omega) (by omega) (by omega)).trans (cl_0 h), (h2 _ _ (by omega) (by omega) (by omega) (by omega) (by omega)).trans (cl_2 h), (h2 _ _ (by omega) (by omega) (by omega) (by omega) (by omega)).trans (cl_3 h), (h2 _ _ (by omega) (by omega) (by omega) (by omega) (by omega)).trans (cl_4 h), (h2 _ _ (by omega) (by omega) (by omega) (by omega) (by omega)).trans (cl_5 h), (h2 _ _ (by omega) (by omega) (by omega) (by omega) (by omega)).trans (cl_6 h), (h2 _ _ (by omega) (by omega) (by omega) (by omega) (by omega)).trans (cl_7 h), (h2 _ _ (by omega) (by omega) (by omega) (by omega) (by omega)).trans (cl_8 h), (h2 _ _ (by omega) (by omega) (by omega) (by omega) (by omega)).trans (cl_9 h), (h2 _ _ (by omega) (by omega) (by omega) (by omega) (by omega)).trans (cl_10 h), (h2 _ _ (by omega) (by omega) (by omega) (by omega) (by omega)).trans (cl_12 h), (h2 _ _ (by omega) (by omega) (by omega) (by omega) (by omega)).trans (cl_13 h), (h2 _ _ (by omega) (by omega) (by omega) (by omega) (by omega)).trans (cl_14 h), cl_l1 h, cl_l220 h, cl_l239 h, cl_l257 h,
    (cl_c1 h).fR (fun b j u v => h2 b j (by omega) (by omega) (by omega) (by omega) (by omega)), (cl_c2 h).fR (fun b j u v => h2 b j (by omega) (by omega) (by omega) (by omega) (by omega)),
    ⟨rd_p (cl_rd h), (h2 _ _ (by omega) (by omega) (by omega) (by omega) (by omega)).trans (rd_1 (cl_rd h)), (h2 _ _ (by omega) (by omega) (by omega) (by omega) (by omega)).trans (rd_11 (cl_rd h)), (h2 _ _ (by omega) (by omega) (by omega) (by omega) (by omega)).trans (rd_12 (cl_rd h)), (h2 _ _ (by omega) (by omega) (by omega) (by omega) (by omega)).trans (rd_14 (cl_rd h)), rd_q (cl_rd h), rd_lq (cl_rd h), rd_l1 (cl_rd h), rd_l2 (cl_rd h), rd_l3 (cl_rd h)⟩,
    (cl_fn h).fR (fun j u => h2 _ _ (by omega) (by omega) (by omega) (by omega) (by omega)),
    fun o u v => ⟨(h2 _ _ (by omega) (by omega) (by omega) (by omega) (by omega)).trans (cl_wy h o u v).1, (cl_wy h o u v).2.fR (h2 _ _ (by omega) (by omega) (by omega) (by omega) (by omega))⟩,
    (cl_as h).fR (h2 _ _ (by omega) (by omega) (by omega) (by omega) (by omega)),
    (cl_dy h).fR (fun b j u v w => h2 _ _ (by omega) (by omega) (by omega) (by omega) (by omega)),
    fun i u v => ⟨(h2 _ _ (by omega) (by omega) (by omega) (by omega) (by omega)).trans (cl_mk h i u v).1, (cl_mk h i u v).2.fR (fun b j x y w => h2 _ _ (by omega) (by omega) (by omega) (by omega) (by omega))⟩,
    (cl_ac h).fR (fun b j u v => h2 _ _ (by omega) (by omega) (by omega) (by omega) (by omega)),
    (cl_tf h).fR (fun j => h2 _ _ (by omega) (by omega) (by omega) (by omega) (by omega)),
    (cl_rm h).fR (fun b j u v => h2 _ _ (by omega) (by omega) (by omega) (by omega) (by omega))⟩
theorem clT.q (h : clT B a L R) (hq : qX B a t R R' F F' E E') : clT B a L R' := h.fR (fun b j _ _ u _ _ => hq.2.1 b j u)
theorem clM.q (hT : clT B a L R) (h : clM B a C tp fd tr fa pl D k M n H HN R F E) (hs : stW C tp fd tr D k M n H HN) (hq : qX B a t R R' F F' E E') : clM B a C tp fd t fa pl D k M n H HN R' F' E' := by
  have ca := cl_a hT
  have b4 := cw_4 (sw_w hs)
  have bk := sw_k hs
  have bn := sw_n hs
  have bf := sw_f hs
  obtain ⟨ht, q1, q2, q3, q4, q5⟩ := hq
  have f3 : ∀ b j : Int, (b < B + 212 ∨ B + 220 ≤ b) → (b < B + 237 ∨ B + 240 ≤ b) → (b < B + 321 ∨ B + 325 ≤ b) → (b ≠ B ∨ j ≠ 17) → F' b j = F b j := q3
  refine ⟨(cx_c h).fa (sw_w hs) (fun b j u v => q3 b j (by omega) (by omega) (by omega) (by omega)) (fun b j u v => q5 b j (by omega) (by omega) (by omega)), (q3 _ _ (by omega) (by omega) (by omega) (by omega)).trans (cx_1 h), fun i u v => (q5 _ _ (by omega) (by omega) (by omega)).trans (cx_t h i u v), (q3 _ _ (by omega) (by omega) (by omega) (by omega)).trans (cx_15 h), q4, fun z => absurd z ht, fun o u v => (cx_w h o u v).fa (fun j => q3 _ _ (by omega) (by omega) (by omega) (by omega)) (fun j => q5 _ _ (by omega) (by omega) (by omega)), fun z => ?_, (q1 _ _ (by omega)).trans (cx_d8 h), (q1 _ _ (by omega)).trans (cx_d9 h), (q3 _ _ (by omega) (by omega) (by omega) (by omega)).trans (cx_d0 h), (q3 _ _ (by omega) (by omega) (by omega) (by omega)).trans (cx_d1 h), fun z => (cx_d h z).fa (fun j => q3 _ _ (by omega) (by omega) (by omega) (by omega)) (fun b j u v => q5 _ _ (by omega) (by omega) (by omega)), (q3 _ _ (by omega) (by omega) (by omega) (by omega)).trans (cx_11 h), fun i u v => ⟨(q1 _ _ (by omega)).trans (cx_m h i u v).1, (q1 _ _ (by omega)).trans (cx_m h i u v).2.1, (cx_m h i u v).2.2.fa (fun j => q3 _ _ (by omega) (by omega) (by omega) (by omega)) (fun b j u v => q5 _ _ (by omega) (by omega) (by omega))⟩, (cx_a h).fa bn.2 (q3 _ _ (by omega) (by omega) (by omega) (by omega)) (fun b j u v => q5 _ _ (by omega) (by omega) (by omega)), ?_⟩
  · rcases q2 with z2 | z2
    · rw [z2]; exact cx_f h z
    · exact z2
  · have := cx_r h
    simp (disch := omega) only [f3]
    exact this
theorem mM.ga (h : mM m c C F E) (h17 : F' m 17 = F m 17) (hF : ∀ j : Int, F' c j = F c j) (h2 : ∀ j : Int, E' (m + 2) j = E (m + 2) j) (hE : ∀ b j : Int, c ≤ b → E' b j = E b j) : mM m c C F' E' := by
  exact ⟨(hF _).trans (mm_0 h), h17.trans (mm_1 h), (hF _).trans (mm_2 h), (hF _).trans (mm_3 h), (hF _).trans (mm_4 h), fun g a b => (hE _ _ (by omega)).trans (mm_w h g a b), fun q z a b x y => (h2 _).trans (mm_g h q z a b x y), fun g a b => (hE _ _ (by omega)).trans (mm_s1 h g a b), fun g a b => (hE _ _ (by omega)).trans (mm_s2 h g a b), fun g a b => (hE _ _ (by omega)).trans (mm_c0 h g a b), fun g a b => (hE _ _ (by omega)).trans (mm_c1 h g a b), fun g a b => (hE _ _ (by omega)).trans (mm_k0 h g a b), fun g a b => (hE _ _ (by omega)).trans (mm_k1 h g a b), fun g a b => (hE _ _ (by omega)).trans (mm_k2 h g a b), fun g a b => (hE _ _ (by omega)).trans (mm_k3 h g a b), fun g a b => (hE _ _ (by omega)).trans (mm_k4 h g a b), fun g a b => (hE _ _ (by omega)).trans (mm_k5 h g a b), fun g a b => (hE _ _ (by omega)).trans (mm_k6 h g a b), fun g a b => (hE _ _ (by omega)).trans (mm_o0 h g a b), fun g a b => (hE _ _ (by omega)).trans (mm_o1 h g a b), fun g a b => (hE _ _ (by omega)).trans (mm_o2 h g a b), fun g a b => (hE _ _ (by omega)).trans (mm_o3 h g a b), fun g a b => (hE _ _ (by omega)).trans (mm_o4 h g a b), fun g a b => (hE _ _ (by omega)).trans (mm_o5 h g a b)⟩
theorem dmS.ga (h : dmS m c C L R F E) (h17 : F' m 17 = F m 17) (hF : ∀ j : Int, F' c j = F c j) (h2 : ∀ b j : Int, (b = m + 2 ∨ b = m + 10 ∨ b = m + 11 ∨ c ≤ b) → E' b j = E b j) : dmS m c C L R F' E' := by
  obtain ⟨x1, x2, x3, x4, x5, x6, x7⟩ := h
  refine ⟨x1, x2, x3, x4.ga h17 hF (fun j => h2 _ _ (by omega)) (fun b j z => h2 _ _ (by omega)), x5, x6, fun o u v z => ?_⟩
  obtain ⟨y1, y2⟩ := x7 o u v z
  exact ⟨(h2 _ _ (by omega)).trans y1, fun i a b => (h2 _ _ (by omega)).trans (y2 i a b)⟩
theorem rfM.q (h : rfM m c C tp fd tr fa pl D k M n H HN L R F E) (hs : stW C tp fd tr D k M n H HN) (hq : qM m t (-1) F F' E E') : rfM m c C tp fd t fa pl D k M n H HN L R F' E' := by
  have bk := sw_k hs
  have bn := sw_n hs
  obtain ⟨ht, q1, q2, q3, q4, q5⟩ := hq
  refine ⟨rx_t h, (q1 _ _ (by omega)).trans (rx_6 h), fun i u v => (q5 _ _ (by omega) (by omega) (by omega)).trans (rx_tp h i u v), (q1 _ _ (by omega)).trans (rx_13 h), q3, by rw [if_neg ht]; exact q4, ?_, (q1 _ _ (by omega)).trans (rx_39 h), fun i u v => ?_, ?_⟩
  · rcases rx_c h with z | ⟨z1, z2, z3⟩
    · exact Or.inl z
    · have hmc := es_mc z2
      exact Or.inr ⟨z1, z2.ga (q1 _ _ (by omega)) (fun j => q1 _ _ (by omega)) (fun b j w => q5 _ _ (by omega) (by omega) (by omega)), z3.fr (q1 _ _ (by omega)) (fun b j w => q5 _ _ (by omega) (by omega) (by omega))⟩
  · obtain ⟨y1, y2, y3⟩ := rx_k h i u v
    exact ⟨(q5 _ _ (by omega) (by omega) (by omega)).trans y1, fun f l x1 x2 x3 x4 => (q5 _ _ (by omega) (by omega) (by omega)).trans (y2 f l x1 x2 x3 x4), fun g x1 x2 => ⟨(q5 _ _ (by omega) (by omega) (by omega)).trans (y3 g x1 x2).1, (q5 _ _ (by omega) (by omega) (by omega)).trans (y3 g x1 x2).2⟩⟩
  · obtain ⟨y1, y2⟩ := rx_a h
    refine ⟨(q1 _ _ (by omega)).trans y1, fun i u v => ⟨(q5 _ _ (by omega) (by omega) (by omega)).trans (y2 i u v).1, fun q w x1 x2 x3 x4 => (q5 _ _ (by omega) (by omega) (by omega)).trans ((y2 i u v).2 q w x1 x2 x3 x4)⟩⟩
end STATE

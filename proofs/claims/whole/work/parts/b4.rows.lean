/-! ===== a city with one more row; what is read so far ===== -/
theorem ctW_ad2 {C : Cy} {row : Int → Int} (hW : ctW C) (hm : C 0 1 0 < 11) (b0 : 0 ≤ row 0 ∧ row 0 + 1 < C 0 0 0) (b1 : 0 ≤ row 1 ∧ row 1 < 12) (b2 : 1 ≤ row 2 ∧ row 2 ≤ 99) (b3 : 1 ≤ row 3 ∧ row 3 ≤ 99) (b4 : 1 ≤ row 4 ∧ row 4 ≤ 9) (b5 : 0 ≤ row 5 ∧ row 5 ≤ 99) (b6 : row 6 = 0 ∨ row 6 = 1) : ctW (adC C 2 (C 0 1 0) 1 row) := by
  have n : ∀ x y z : Int, (x ≠ 2 ∨ y ≠ C 0 1 0) → (x ≠ 0 ∨ y ≠ 1 ∨ z ≠ 0) → adC C 2 (C 0 1 0) 1 row x y z = C x y z := fun x y z a b => ad_n a b
  have hc : adC C 2 (C 0 1 0) 1 row 0 1 0 = C 0 1 0 + 1 := ad_c (by omega)
  have b9 := cw_1 hW
  unfold ctW
  simp (disch := omega) only [n, hc]
  refine ⟨cw_0 hW, ⟨by omega, by omega⟩, cw_2 hW, cw_3 hW, cw_4 hW, cw_w hW, fun q x1 x2 => by
    by_cases y : q = C 0 1 0
    · rw [y, ad_r]; exact b0
    · rw [ad_n (by omega) (by omega)]; exact cw_g0 hW q x1 (by omega), fun q x1 x2 => by
    by_cases y : q = C 0 1 0
    · rw [y, ad_r]; exact b1
    · rw [ad_n (by omega) (by omega)]; exact cw_g1 hW q x1 (by omega), fun q x1 x2 => by
    by_cases y : q = C 0 1 0
    · rw [y, ad_r]; exact b2
    · rw [ad_n (by omega) (by omega)]; exact cw_g2 hW q x1 (by omega), fun q x1 x2 => by
    by_cases y : q = C 0 1 0
    · rw [y, ad_r]; exact b3
    · rw [ad_n (by omega) (by omega)]; exact cw_g3 hW q x1 (by omega), fun q x1 x2 => by
    by_cases y : q = C 0 1 0
    · rw [y, ad_r]; exact b4
    · rw [ad_n (by omega) (by omega)]; exact cw_g4 hW q x1 (by omega), fun q x1 x2 => by
    by_cases y : q = C 0 1 0
    · rw [y, ad_r]; exact b5
    · rw [ad_n (by omega) (by omega)]; exact cw_g5 hW q x1 (by omega), fun q x1 x2 => by
    by_cases y : q = C 0 1 0
    · rw [y, ad_r]; exact b6
    · rw [ad_n (by omega) (by omega)]; exact cw_g6 hW q x1 (by omega), cw_c0 hW, cw_c1 hW, cw_s1 hW, cw_s2 hW, cw_o0 hW, cw_o1 hW, cw_o2 hW, cw_o3 hW, cw_o4 hW, cw_o5 hW, cw_k hW, cw_k4 hW, cw_k5 hW, cw_k6 hW⟩
theorem ctW_ad3 {C : Cy} {row : Int → Int} (hW : ctW C) (hm : C 0 2 0 < 8) (b0 : 0 ≤ row 0 ∧ row 0 < C 0 0 0) (b1 : 1 ≤ row 1 ∧ row 1 ≤ 99) : ctW (adC C 3 (C 0 2 0) 2 row) := by
  have n : ∀ x y z : Int, (x ≠ 3 ∨ y ≠ C 0 2 0) → (x ≠ 0 ∨ y ≠ 2 ∨ z ≠ 0) → adC C 3 (C 0 2 0) 2 row x y z = C x y z := fun x y z a b => ad_n a b
  have hc : adC C 3 (C 0 2 0) 2 row 0 2 0 = C 0 2 0 + 1 := ad_c (by omega)
  have b9 := cw_2 hW
  unfold ctW
  simp (disch := omega) only [n, hc]
  refine ⟨cw_0 hW, cw_1 hW, ⟨by omega, by omega⟩, cw_3 hW, cw_4 hW, cw_w hW, cw_g0 hW, cw_g1 hW, cw_g2 hW, cw_g3 hW, cw_g4 hW, cw_g5 hW, cw_g6 hW, fun q x1 x2 => by
    by_cases y : q = C 0 2 0
    · rw [y, ad_r]; exact b0
    · rw [ad_n (by omega) (by omega)]; exact cw_c0 hW q x1 (by omega), fun q x1 x2 => by
    by_cases y : q = C 0 2 0
    · rw [y, ad_r]; exact b1
    · rw [ad_n (by omega) (by omega)]; exact cw_c1 hW q x1 (by omega), cw_s1 hW, cw_s2 hW, cw_o0 hW, cw_o1 hW, cw_o2 hW, cw_o3 hW, cw_o4 hW, cw_o5 hW, cw_k hW, cw_k4 hW, cw_k5 hW, cw_k6 hW⟩
theorem ctW_ad5 {C : Cy} {row : Int → Int} (hW : ctW C) (hm : C 0 4 0 < 8) (b0 : 0 ≤ row 0 ∧ row 0 < C 0 3 0) (b1 : 0 ≤ row 1 ∧ row 1 < C 0 0 0) (b2 : 0 ≤ row 2 ∧ row 2 < 12) (b3 : 0 ≤ row 3 ∧ row 3 < C 0 0 0) (b4 : 0 ≤ row 4 ∧ row 4 < 12) (b5 : 0 ≤ row 5 ∧ row 5 < 24) : ctW (adC C 5 (C 0 4 0) 4 row) := by
  have n : ∀ x y z : Int, (x ≠ 5 ∨ y ≠ C 0 4 0) → (x ≠ 0 ∨ y ≠ 4 ∨ z ≠ 0) → adC C 5 (C 0 4 0) 4 row x y z = C x y z := fun x y z a b => ad_n a b
  have hc : adC C 5 (C 0 4 0) 4 row 0 4 0 = C 0 4 0 + 1 := ad_c (by omega)
  have b9 := cw_4 hW
  unfold ctW
  simp (disch := omega) only [n, hc]
  refine ⟨cw_0 hW, cw_1 hW, cw_2 hW, cw_3 hW, ⟨by omega, by omega⟩, cw_w hW, cw_g0 hW, cw_g1 hW, cw_g2 hW, cw_g3 hW, cw_g4 hW, cw_g5 hW, cw_g6 hW, cw_c0 hW, cw_c1 hW, cw_s1 hW, cw_s2 hW, fun q x1 x2 => by
    by_cases y : q = C 0 4 0
    · rw [y, ad_r]; exact b0
    · rw [ad_n (by omega) (by omega)]; exact cw_o0 hW q x1 (by omega), fun q x1 x2 => by
    by_cases y : q = C 0 4 0
    · rw [y, ad_r]; exact b1
    · rw [ad_n (by omega) (by omega)]; exact cw_o1 hW q x1 (by omega), fun q x1 x2 => by
    by_cases y : q = C 0 4 0
    · rw [y, ad_r]; exact b2
    · rw [ad_n (by omega) (by omega)]; exact cw_o2 hW q x1 (by omega), fun q x1 x2 => by
    by_cases y : q = C 0 4 0
    · rw [y, ad_r]; exact b3
    · rw [ad_n (by omega) (by omega)]; exact cw_o3 hW q x1 (by omega), fun q x1 x2 => by
    by_cases y : q = C 0 4 0
    · rw [y, ad_r]; exact b4
    · rw [ad_n (by omega) (by omega)]; exact cw_o4 hW q x1 (by omega), fun q x1 x2 => by
    by_cases y : q = C 0 4 0
    · rw [y, ad_r]; exact b5
    · rw [ad_n (by omega) (by omega)]; exact cw_o5 hW q x1 (by omega), cw_k hW, cw_k4 hW, cw_k5 hW, cw_k6 hW⟩
section ROWS
variable {L : Int → Int} {R F F' E E' : Int → Int → Int} {r s a k v g : Int} {C : Cy} {row nm go : Int → Int}
theorem ctM_ad2 (hM : ctM a C F E) (hW : ctW C) (hm : C 0 1 0 < 11) (h1 : F' a 1 = C 0 1 0 + 1) (hr : ∀ z : Int, 0 ≤ z → z < 7 → E' (a + 3 + C 0 1 0) z = row z) (hF : ∀ b j : Int, a ≤ b → b < a + 105 → (b ≠ a ∨ j ≠ 1) → F' b j = F b j) (hE : ∀ b j : Int, a ≤ b → b < a + 105 → b ≠ a + 3 + C 0 1 0 → E' b j = E b j) : ctM a (adC C 2 (C 0 1 0) 1 row) F' E' := by
  have b0 := cw_0 hW
  have b1 := cw_1 hW
  have b2 := cw_2 hW
  have b3 := cw_3 hW
  have b4 := cw_4 hW
  have n : ∀ x y z : Int, (x ≠ 2 ∨ y ≠ C 0 1 0) → (x ≠ 0 ∨ y ≠ 1 ∨ z ≠ 0) → adC C 2 (C 0 1 0) 1 row x y z = C x y z := fun x y z a b => ad_n a b
  have hc : adC C 2 (C 0 1 0) 1 row 0 1 0 = C 0 1 0 + 1 := ad_c (by omega)
  have hwh : ∀ k, wh (adC C 2 (C 0 1 0) 1 row) k = wh C k := fun k => by
    funext i
    unfold wh
    rw [n 6 k 6 (by omega) (by omega), n 6 k 5 (by omega) (by omega), n 6 k i (by omega) (by omega)]
  have hp : ∀ k, pn (adC C 2 (C 0 1 0) 1 row) k = pn C k := fun k => by unfold pn; rw [n 6 k 6 (by omega) (by omega), n 6 k 4 (by omega) (by omega)]
  have hpt : ∀ k, pt (adC C 2 (C 0 1 0) 1 row) k = pt C k := fun k => by
    funext i
    unfold pt
    rw [n 6 k 0 (by omega) (by omega), n 6 k 3 (by omega) (by omega), n 6 k 6 (by omega) (by omega), n 6 k 5 (by omega) (by omega), n 6 k i (by omega) (by omega), hp]
  have th : ∀ (t : Int) (th : Int → Int), a + 41 ≤ t → t + 4 ≤ a + 105 → thM t th F E → thM t th F' E' := fun t th u v w => by
    obtain ⟨y0, y1, y2, y3, y4, y5, y6, y7, y8, y9, y10, y11, y12⟩ := w
    exact ⟨(hE _ _ (by omega) (by omega) (by omega)).trans y0, (hE _ _ (by omega) (by omega) (by omega)).trans y1, (hE _ _ (by omega) (by omega) (by omega)).trans y2, (hE _ _ (by omega) (by omega) (by omega)).trans y3, (hE _ _ (by omega) (by omega) (by omega)).trans y4, (hE _ _ (by omega) (by omega) (by omega)).trans y5, (hE _ _ (by omega) (by omega) (by omega)).trans y6, (hE _ _ (by omega) (by omega) (by omega)).trans y7, (hE _ _ (by omega) (by omega) (by omega)).trans y8, (hF _ _ (by omega) (by omega) (by omega)).trans y9, (hF _ _ (by omega) (by omega) (by omega)).trans y10, (hF _ _ (by omega) (by omega) (by omega)).trans y11, (hF _ _ (by omega) (by omega) (by omega)).trans y12⟩
  unfold ctM
  simp (disch := omega) only [n, hc, hwh, hpt]
  refine ⟨(hF _ _ (by omega) (by omega) (by omega)).trans (cm_0 hM), h1, (hF _ _ (by omega) (by omega) (by omega)).trans (cm_2 hM), (hF _ _ (by omega) (by omega) (by omega)).trans (cm_3 hM), (hF _ _ (by omega) (by omega) (by omega)).trans (cm_4 hM), fun q x1 x2 => (hE _ _ (by omega) (by omega) (by omega)).trans (cm_w hM q x1 x2), fun q z x1 x2 x3 x4 => by
    by_cases y : q = C 0 1 0
    · rw [y, ad_r]; exact hr z x3 x4
    · rw [ad_n (by omega) (by omega)]; exact (hE _ _ (by omega) (by omega) (by omega)).trans (cm_g hM q z x1 (by omega) x3 x4), fun q z x1 x2 x3 x4 => (hE _ _ (by omega) (by omega) (by omega)).trans (cm_c hM q z x1 x2 x3 x4), fun q z x1 x2 x3 x4 => (hE _ _ (by omega) (by omega) (by omega)).trans (cm_s hM q z x1 x2 x3 x4), fun q z x1 x2 x3 x4 => (hE _ _ (by omega) (by omega) (by omega)).trans (cm_o hM q z x1 x2 x3 x4), fun q x1 x2 => th _ _ (by omega) (by omega) (cm_wh hM q x1 x2), fun q x1 x2 => th _ _ (by omega) (by omega) (cm_pt hM q x1 x2)⟩
theorem ctM_ad3 (hM : ctM a C F E) (hW : ctW C) (hm : C 0 2 0 < 8) (h1 : F' a 2 = C 0 2 0 + 1) (hr : ∀ z : Int, 0 ≤ z → z < 2 → E' (a + 15 + C 0 2 0) z = row z) (hF : ∀ b j : Int, a ≤ b → b < a + 105 → (b ≠ a ∨ j ≠ 2) → F' b j = F b j) (hE : ∀ b j : Int, a ≤ b → b < a + 105 → b ≠ a + 15 + C 0 2 0 → E' b j = E b j) : ctM a (adC C 3 (C 0 2 0) 2 row) F' E' := by
  have b0 := cw_0 hW
  have b1 := cw_1 hW
  have b2 := cw_2 hW
  have b3 := cw_3 hW
  have b4 := cw_4 hW
  have n : ∀ x y z : Int, (x ≠ 3 ∨ y ≠ C 0 2 0) → (x ≠ 0 ∨ y ≠ 2 ∨ z ≠ 0) → adC C 3 (C 0 2 0) 2 row x y z = C x y z := fun x y z a b => ad_n a b
  have hc : adC C 3 (C 0 2 0) 2 row 0 2 0 = C 0 2 0 + 1 := ad_c (by omega)
  have hwh : ∀ k, wh (adC C 3 (C 0 2 0) 2 row) k = wh C k := fun k => by
    funext i
    unfold wh
    rw [n 6 k 6 (by omega) (by omega), n 6 k 5 (by omega) (by omega), n 6 k i (by omega) (by omega)]
  have hp : ∀ k, pn (adC C 3 (C 0 2 0) 2 row) k = pn C k := fun k => by unfold pn; rw [n 6 k 6 (by omega) (by omega), n 6 k 4 (by omega) (by omega)]
  have hpt : ∀ k, pt (adC C 3 (C 0 2 0) 2 row) k = pt C k := fun k => by
    funext i
    unfold pt
    rw [n 6 k 0 (by omega) (by omega), n 6 k 3 (by omega) (by omega), n 6 k 6 (by omega) (by omega), n 6 k 5 (by omega) (by omega), n 6 k i (by omega) (by omega), hp]
  have th : ∀ (t : Int) (th : Int → Int), a + 41 ≤ t → t + 4 ≤ a + 105 → thM t th F E → thM t th F' E' := fun t th u v w => by
    obtain ⟨y0, y1, y2, y3, y4, y5, y6, y7, y8, y9, y10, y11, y12⟩ := w
    exact ⟨(hE _ _ (by omega) (by omega) (by omega)).trans y0, (hE _ _ (by omega) (by omega) (by omega)).trans y1, (hE _ _ (by omega) (by omega) (by omega)).trans y2, (hE _ _ (by omega) (by omega) (by omega)).trans y3, (hE _ _ (by omega) (by omega) (by omega)).trans y4, (hE _ _ (by omega) (by omega) (by omega)).trans y5, (hE _ _ (by omega) (by omega) (by omega)).trans y6, (hE _ _ (by omega) (by omega) (by omega)).trans y7, (hE _ _ (by omega) (by omega) (by omega)).trans y8, (hF _ _ (by omega) (by omega) (by omega)).trans y9, (hF _ _ (by omega) (by omega) (by omega)).trans y10, (hF _ _ (by omega) (by omega) (by omega)).trans y11, (hF _ _ (by omega) (by omega) (by omega)).trans y12⟩
  unfold ctM
  simp (disch := omega) only [n, hc, hwh, hpt]
  refine ⟨(hF _ _ (by omega) (by omega) (by omega)).trans (cm_0 hM), (hF _ _ (by omega) (by omega) (by omega)).trans (cm_1 hM), h1, (hF _ _ (by omega) (by omega) (by omega)).trans (cm_3 hM), (hF _ _ (by omega) (by omega) (by omega)).trans (cm_4 hM), fun q x1 x2 => (hE _ _ (by omega) (by omega) (by omega)).trans (cm_w hM q x1 x2), fun q z x1 x2 x3 x4 => (hE _ _ (by omega) (by omega) (by omega)).trans (cm_g hM q z x1 x2 x3 x4), fun q z x1 x2 x3 x4 => by
    by_cases y : q = C 0 2 0
    · rw [y, ad_r]; exact hr z x3 x4
    · rw [ad_n (by omega) (by omega)]; exact (hE _ _ (by omega) (by omega) (by omega)).trans (cm_c hM q z x1 (by omega) x3 x4), fun q z x1 x2 x3 x4 => (hE _ _ (by omega) (by omega) (by omega)).trans (cm_s hM q z x1 x2 x3 x4), fun q z x1 x2 x3 x4 => (hE _ _ (by omega) (by omega) (by omega)).trans (cm_o hM q z x1 x2 x3 x4), fun q x1 x2 => th _ _ (by omega) (by omega) (cm_wh hM q x1 x2), fun q x1 x2 => th _ _ (by omega) (by omega) (cm_pt hM q x1 x2)⟩
theorem ctM_ad5 (hM : ctM a C F E) (hW : ctW C) (hm : C 0 4 0 < 8) (h1 : F' a 4 = C 0 4 0 + 1) (hr : ∀ z : Int, 0 ≤ z → z < 6 → E' (a + 31 + C 0 4 0) z = row z) (hF : ∀ b j : Int, a ≤ b → b < a + 105 → (b ≠ a ∨ j ≠ 4) → F' b j = F b j) (hE : ∀ b j : Int, a ≤ b → b < a + 105 → b ≠ a + 31 + C 0 4 0 → E' b j = E b j) : ctM a (adC C 5 (C 0 4 0) 4 row) F' E' := by
  have b0 := cw_0 hW
  have b1 := cw_1 hW
  have b2 := cw_2 hW
  have b3 := cw_3 hW
  have b4 := cw_4 hW
  have n : ∀ x y z : Int, (x ≠ 5 ∨ y ≠ C 0 4 0) → (x ≠ 0 ∨ y ≠ 4 ∨ z ≠ 0) → adC C 5 (C 0 4 0) 4 row x y z = C x y z := fun x y z a b => ad_n a b
  have hc : adC C 5 (C 0 4 0) 4 row 0 4 0 = C 0 4 0 + 1 := ad_c (by omega)
  have hwh : ∀ k, wh (adC C 5 (C 0 4 0) 4 row) k = wh C k := fun k => by
    funext i
    unfold wh
    rw [n 6 k 6 (by omega) (by omega), n 6 k 5 (by omega) (by omega), n 6 k i (by omega) (by omega)]
  have hp : ∀ k, pn (adC C 5 (C 0 4 0) 4 row) k = pn C k := fun k => by unfold pn; rw [n 6 k 6 (by omega) (by omega), n 6 k 4 (by omega) (by omega)]
  have hpt : ∀ k, pt (adC C 5 (C 0 4 0) 4 row) k = pt C k := fun k => by
    funext i
    unfold pt
    rw [n 6 k 0 (by omega) (by omega), n 6 k 3 (by omega) (by omega), n 6 k 6 (by omega) (by omega), n 6 k 5 (by omega) (by omega), n 6 k i (by omega) (by omega), hp]
  have th : ∀ (t : Int) (th : Int → Int), a + 41 ≤ t → t + 4 ≤ a + 105 → thM t th F E → thM t th F' E' := fun t th u v w => by
    obtain ⟨y0, y1, y2, y3, y4, y5, y6, y7, y8, y9, y10, y11, y12⟩ := w
    exact ⟨(hE _ _ (by omega) (by omega) (by omega)).trans y0, (hE _ _ (by omega) (by omega) (by omega)).trans y1, (hE _ _ (by omega) (by omega) (by omega)).trans y2, (hE _ _ (by omega) (by omega) (by omega)).trans y3, (hE _ _ (by omega) (by omega) (by omega)).trans y4, (hE _ _ (by omega) (by omega) (by omega)).trans y5, (hE _ _ (by omega) (by omega) (by omega)).trans y6, (hE _ _ (by omega) (by omega) (by omega)).trans y7, (hE _ _ (by omega) (by omega) (by omega)).trans y8, (hF _ _ (by omega) (by omega) (by omega)).trans y9, (hF _ _ (by omega) (by omega) (by omega)).trans y10, (hF _ _ (by omega) (by omega) (by omega)).trans y11, (hF _ _ (by omega) (by omega) (by omega)).trans y12⟩
  unfold ctM
  simp (disch := omega) only [n, hc, hwh, hpt]
  refine ⟨(hF _ _ (by omega) (by omega) (by omega)).trans (cm_0 hM), (hF _ _ (by omega) (by omega) (by omega)).trans (cm_1 hM), (hF _ _ (by omega) (by omega) (by omega)).trans (cm_2 hM), (hF _ _ (by omega) (by omega) (by omega)).trans (cm_3 hM), h1, fun q x1 x2 => (hE _ _ (by omega) (by omega) (by omega)).trans (cm_w hM q x1 x2), fun q z x1 x2 x3 x4 => (hE _ _ (by omega) (by omega) (by omega)).trans (cm_g hM q z x1 x2 x3 x4), fun q z x1 x2 x3 x4 => (hE _ _ (by omega) (by omega) (by omega)).trans (cm_c hM q z x1 x2 x3 x4), fun q z x1 x2 x3 x4 => (hE _ _ (by omega) (by omega) (by omega)).trans (cm_s hM q z x1 x2 x3 x4), fun q z x1 x2 x3 x4 => by
    by_cases y : q = C 0 4 0
    · rw [y, ad_r]; exact hr z x3 x4
    · rw [ad_n (by omega) (by omega)]; exact (hE _ _ (by omega) (by omega) (by omega)).trans (cm_o hM q z x1 (by omega) x3 x4), fun q x1 x2 => th _ _ (by omega) (by omega) (cm_wh hM q x1 x2), fun q x1 x2 => th _ _ (by omega) (by omega) (cm_pt hM q x1 x2)⟩
theorem ctW_ad4 (hW : ctW C) (b1 : 0 ≤ row 1 ∧ row 1 ≤ 999) (b2 : 0 ≤ row 2 ∧ row 2 ≤ 99) : ctW (adC C 4 g 9 row) := by
  have n : ∀ x y z : Int, (x ≠ 4 ∨ y ≠ g) → (x ≠ 0 ∨ y ≠ 9 ∨ z ≠ 0) → adC C 4 g 9 row x y z = C x y z := fun x y z a b => ad_n a b
  unfold ctW
  simp (disch := omega) only [n]
  refine ⟨cw_0 hW, cw_1 hW, cw_2 hW, cw_3 hW, cw_4 hW, cw_w hW, cw_g0 hW, cw_g1 hW, cw_g2 hW, cw_g3 hW, cw_g4 hW, cw_g5 hW, cw_g6 hW, cw_c0 hW, cw_c1 hW, fun q x1 x2 => by
    by_cases y : q = g
    · rw [y, ad_r]; exact b1
    · rw [ad_n (by omega) (by omega)]; exact cw_s1 hW q x1 x2, fun q x1 x2 => by
    by_cases y : q = g
    · rw [y, ad_r]; exact b2
    · rw [ad_n (by omega) (by omega)]; exact cw_s2 hW q x1 x2, cw_o0 hW, cw_o1 hW, cw_o2 hW, cw_o3 hW, cw_o4 hW, cw_o5 hW, cw_k hW, cw_k4 hW, cw_k5 hW, cw_k6 hW⟩
theorem ctM_ad4 (hM : ctM a C F E) (hW : ctW C) (g0 : 0 ≤ g) (g1 : g < 6) (hr : ∀ z : Int, 0 ≤ z → z < 3 → E' (a + 24 + g) z = row z) (hF : ∀ b j : Int, a ≤ b → b < a + 105 → F' b j = F b j) (hE : ∀ b j : Int, a ≤ b → b < a + 105 → b ≠ a + 24 + g → E' b j = E b j) : ctM a (adC C 4 g 9 row) F' E' := by
  have b0 := cw_0 hW
  have b1 := cw_1 hW
  have b2 := cw_2 hW
  have b3 := cw_3 hW
  have b4 := cw_4 hW
  have n : ∀ x y z : Int, (x ≠ 4 ∨ y ≠ g) → (x ≠ 0 ∨ y ≠ 9 ∨ z ≠ 0) → adC C 4 g 9 row x y z = C x y z := fun x y z a b => ad_n a b
  have hwh : ∀ k, wh (adC C 4 g 9 row) k = wh C k := fun k => by
    funext i
    unfold wh
    rw [n 6 k 6 (by omega) (by omega), n 6 k 5 (by omega) (by omega), n 6 k i (by omega) (by omega)]
  have hp : ∀ k, pn (adC C 4 g 9 row) k = pn C k := fun k => by unfold pn; rw [n 6 k 6 (by omega) (by omega), n 6 k 4 (by omega) (by omega)]
  have hpt : ∀ k, pt (adC C 4 g 9 row) k = pt C k := fun k => by
    funext i
    unfold pt
    rw [n 6 k 0 (by omega) (by omega), n 6 k 3 (by omega) (by omega), n 6 k 6 (by omega) (by omega), n 6 k 5 (by omega) (by omega), n 6 k i (by omega) (by omega), hp]
  have th : ∀ (t : Int) (th : Int → Int), a + 41 ≤ t → t + 4 ≤ a + 105 → thM t th F E → thM t th F' E' := fun t th u v w => by
    obtain ⟨y0, y1, y2, y3, y4, y5, y6, y7, y8, y9, y10, y11, y12⟩ := w
    exact ⟨(hE _ _ (by omega) (by omega) (by omega)).trans y0, (hE _ _ (by omega) (by omega) (by omega)).trans y1, (hE _ _ (by omega) (by omega) (by omega)).trans y2, (hE _ _ (by omega) (by omega) (by omega)).trans y3, (hE _ _ (by omega) (by omega) (by omega)).trans y4, (hE _ _ (by omega) (by omega) (by omega)).trans y5, (hE _ _ (by omega) (by omega) (by omega)).trans y6, (hE _ _ (by omega) (by omega) (by omega)).trans y7, (hE _ _ (by omega) (by omega) (by omega)).trans y8, (hF _ _ (by omega) (by omega)).trans y9, (hF _ _ (by omega) (by omega)).trans y10, (hF _ _ (by omega) (by omega)).trans y11, (hF _ _ (by omega) (by omega)).trans y12⟩
  unfold ctM
  simp (disch := omega) only [n, hwh, hpt]
  refine ⟨(hF _ _ (by omega) (by omega)).trans (cm_0 hM), (hF _ _ (by omega) (by omega)).trans (cm_1 hM), (hF _ _ (by omega) (by omega)).trans (cm_2 hM), (hF _ _ (by omega) (by omega)).trans (cm_3 hM), (hF _ _ (by omega) (by omega)).trans (cm_4 hM), fun q x1 x2 => (hE _ _ (by omega) (by omega) (by omega)).trans (cm_w hM q x1 x2), fun q z x1 x2 x3 x4 => (hE _ _ (by omega) (by omega) (by omega)).trans (cm_g hM q z x1 x2 x3 x4), fun q z x1 x2 x3 x4 => (hE _ _ (by omega) (by omega) (by omega)).trans (cm_c hM q z x1 x2 x3 x4), fun q z x1 x2 x3 x4 => by
    by_cases y : q = g
    · rw [y, ad_r]; exact hr z (by omega) x4
    · rw [ad_n (by omega) (by omega)]; exact (hE _ _ (by omega) (by omega) (by omega)).trans (cm_s hM q z x1 (by omega) x3 x4), fun q z x1 x2 x3 x4 => (hE _ _ (by omega) (by omega) (by omega)).trans (cm_o hM q z x1 x2 x3 x4), fun q x1 x2 => th _ _ (by omega) (by omega) (cm_wh hM q x1 x2), fun q x1 x2 => th _ _ (by omega) (by omega) (cm_pt hM q x1 x2)⟩
end ROWS
def us (f : Int → Int) (k v : Int) : Int → Int := fun q => if q = k then v else f q
theorem us_e {f : Int → Int} {k v : Int} : us f k v k = v := if_pos rfl
theorem us_n {f : Int → Int} {k v q : Int} (h : q ≠ k) : us f k v q = f q := if_neg h
def kN (C : Cy) : Int := C 0 1 0 + C 0 2 0 + C 0 3 0 + C 0 4 0
def psW (C : Cy) (nm go : Int → Int) : Prop := (ctW C) ∧ (C 0 0 0 = 0 → C 0 1 0 = 0 ∧ C 0 2 0 = 0 ∧ C 0 4 0 = 0) ∧ (C 0 0 0 = 0 ∨ 2 ≤ C 0 0 0) ∧ (∀ g : Int, 0 ≤ g → g < 6 → (C 4 g 0 = 0 ∨ C 4 g 0 = 1) ∧ (0 ≤ C 4 g 1 ∧ C 4 g 1 ≤ 999) ∧ (0 ≤ C 4 g 2 ∧ C 4 g 2 ≤ 99)) ∧ (∀ q : Int, 0 ≤ q → q < kN C → go q = -1 ∨ (0 ≤ go q ∧ go q < C 0 3 0))
theorem pw_w {C : Cy} {nm go : Int → Int} (h : psW C nm go) : ctW C := h.1
theorem pw_0 {C : Cy} {nm go : Int → Int} (h : psW C nm go) : C 0 0 0 = 0 → C 0 1 0 = 0 ∧ C 0 2 0 = 0 ∧ C 0 4 0 = 0 := h.2.1
theorem pw_2 {C : Cy} {nm go : Int → Int} (h : psW C nm go) : C 0 0 0 = 0 ∨ 2 ≤ C 0 0 0 := h.2.2.1
theorem pw_s {C : Cy} {nm go : Int → Int} (h : psW C nm go) : ∀ g : Int, 0 ≤ g → g < 6 → (C 4 g 0 = 0 ∨ C 4 g 0 = 1) ∧ (0 ≤ C 4 g 1 ∧ C 4 g 1 ≤ 999) ∧ (0 ≤ C 4 g 2 ∧ C 4 g 2 ≤ 99) := h.2.2.2.1
theorem pw_g {C : Cy} {nm go : Int → Int} (h : psW C nm go) : ∀ q : Int, 0 ≤ q → q < kN C → go q = -1 ∨ (0 ≤ go q ∧ go q < C 0 3 0) := h.2.2.2.2
def pxM (r s : Int) (C : Cy) (nm go : Int → Int) (F E : Int → Int → Int) : Prop := (ctM s C F E) ∧ (∀ g w : Int, 0 ≤ g → g < 6 → 0 ≤ w → w < 3 → E (s + 24 + g) w = C 4 g w) ∧ (F r 13 = kN C) ∧ (∀ q : Int, 0 ≤ q → q < kN C → E (r + 1) q = nm q) ∧ (∀ q : Int, 0 ≤ q → q < kN C → E (r + 2) q = go q) ∧ (F r 9 = 0)
theorem px_c {r s : Int} {C : Cy} {nm go : Int → Int} {F E : Int → Int → Int} (h : pxM r s C nm go F E) : ctM s C F E := h.1
theorem px_s {r s : Int} {C : Cy} {nm go : Int → Int} {F E : Int → Int → Int} (h : pxM r s C nm go F E) : ∀ g w : Int, 0 ≤ g → g < 6 → 0 ≤ w → w < 3 → E (s + 24 + g) w = C 4 g w := h.2.1
theorem px_k {r s : Int} {C : Cy} {nm go : Int → Int} {F E : Int → Int → Int} (h : pxM r s C nm go F E) : F r 13 = kN C := h.2.2.1
theorem px_n {r s : Int} {C : Cy} {nm go : Int → Int} {F E : Int → Int → Int} (h : pxM r s C nm go F E) : ∀ q : Int, 0 ≤ q → q < kN C → E (r + 1) q = nm q := h.2.2.2.1
theorem px_g {r s : Int} {C : Cy} {nm go : Int → Int} {F E : Int → Int → Int} (h : pxM r s C nm go F E) : ∀ q : Int, 0 ≤ q → q < kN C → E (r + 2) q = go q := h.2.2.2.2.1
theorem px_9 {r s : Int} {C : Cy} {nm go : Int → Int} {F E : Int → Int → Int} (h : pxM r s C nm go F E) : F r 9 = 0 := h.2.2.2.2.2
def rfX (r s : Int) (F F' E E' : Int → Int → Int) : Prop := ∀ b j : Int, (b < r ∨ r + 4 ≤ b) → (b < s ∨ s + 105 ≤ b) → F' b j = F b j ∧ E' b j = E b j
theorem rfX.s {r s : Int} {F E : Int → Int → Int} : rfX r s F F E E := fun _ _ _ _ => ⟨rfl, rfl⟩
theorem rfX.k {r s : Int} {F F' F'' E E' : Int → Int → Int} (h : rfX r s F F' E E') (h' : tkX r F' F'') : rfX r s F F'' E E' := fun b j u v => ⟨(h' b j (by omega)).trans (h b j u v).1, (h b j u v).2⟩
theorem rfX.y {r s : Int} {F F' F'' E E' : Int → Int → Int} (h : rfX r s F F' E E') (h' : tkY r F' F'') : rfX r s F F'' E E' := fun b j u v => ⟨(h' b j (by omega)).trans (h b j u v).1, (h b j u v).2⟩
theorem rfX.f {r s x y v : Int} {F F' E E' : Int → Int → Int} (h : rfX r s F F' E E') (hx : (r ≤ x ∧ x < r + 4) ∨ (s ≤ x ∧ x < s + 105)) : rfX r s F (up F' x y v) E E' := fun b j u w => ⟨(up_ne (by omega)).trans (h b j u w).1, (h b j u w).2⟩
theorem rfX.e {r s x y v : Int} {F F' E E' : Int → Int → Int} (h : rfX r s F F' E E') (hx : (r ≤ x ∧ x < r + 4) ∨ (s ≤ x ∧ x < s + 105)) : rfX r s F F' E (up E' x y v) := fun b j u w => ⟨(h b j u w).1, (up_ne (by omega)).trans (h b j u w).2⟩
theorem rfX.t {r s : Int} {F F' F'' E E' E'' : Int → Int → Int} (h : rfX r s F F' E E') (h' : rfX r s F' F'' E' E'') : rfX r s F F'' E E'' := fun b j u v => ⟨(h' b j u v).1.trans (h b j u v).1, (h' b j u v).2.trans (h b j u v).2⟩
section PICT
variable {L : Int → Int} {R F F' E E' : Int → Int → Int} {r s a k v w g : Int} {C : Cy} {row nm go : Int → Int}
theorem kN_ad2 : kN (adC C 2 (C 0 1 0) 1 row) = kN C + 1 := by
  unfold kN
  rw [ad_c (by omega), ad_n (x := 2) (y := C 0 1 0) (c := 1) (x' := 0) (y' := 2) (by omega) (by omega), ad_n (x := 2) (y := C 0 1 0) (c := 1) (x' := 0) (y' := 3) (by omega) (by omega), ad_n (x := 2) (y := C 0 1 0) (c := 1) (x' := 0) (y' := 4) (by omega) (by omega)]
  omega
theorem psW_ad2 (hP : psW C nm go) (hW : ctW (adC C 2 (C 0 1 0) 1 row)) (hz : C 0 0 0 ≠ 0) : psW (adC C 2 (C 0 1 0) 1 row) (us nm (kN C) w) (us go (kN C) (-1)) := by
  have n : ∀ x y z : Int, (x ≠ 2 ∨ y ≠ C 0 1 0) → (x ≠ 0 ∨ y ≠ 1 ∨ z ≠ 0) → adC C 2 (C 0 1 0) 1 row x y z = C x y z := fun x y z a b => ad_n a b
  refine ⟨hW, fun z => ?_, ?_, fun g a b => ?_, fun q a b => ?_⟩
  · rw [n 0 0 0 (by omega) (by omega)] at z; exact absurd z hz
  · rw [n 0 0 0 (by omega) (by omega)]; exact pw_2 hP
  · rw [n 4 g 0 (by omega) (by omega), n 4 g 1 (by omega) (by omega), n 4 g 2 (by omega) (by omega)]; exact pw_s hP g a b
  · rw [kN_ad2] at b
    rw [n 0 3 0 (by omega) (by omega)]
    by_cases y : q = kN C
    · rw [y, us_e]; exact Or.inl rfl
    · rw [us_n y]; exact pw_g hP q a (by omega)
theorem pxM_ad2 (hP : pxM r s C nm go F E) (hW : ctW C) (dis : s + 105 ≤ r ∨ r + 4 ≤ s) (hm : C 0 1 0 < 11) (h1 : F' s 1 = C 0 1 0 + 1) (h13 : F' r 13 = kN C + 1) (h9 : F' r 9 = 0) (hr : ∀ z : Int, 0 ≤ z → z < 7 → E' (s + 3 + C 0 1 0) z = row z) (hn : E' (r + 1) (kN C) = w) (hg : E' (r + 2) (kN C) = v) (hF : ∀ b j : Int, s ≤ b → b < s + 105 → (b ≠ s ∨ j ≠ 1) → F' b j = F b j) (hE : ∀ b j : Int, s ≤ b → b < s + 105 → b ≠ s + 3 + C 0 1 0 → E' b j = E b j) (hE1 : ∀ q : Int, q ≠ kN C → E' (r + 1) q = E (r + 1) q) (hE2 : ∀ q : Int, q ≠ kN C → E' (r + 2) q = E (r + 2) q) : pxM r s (adC C 2 (C 0 1 0) 1 row) (us nm (kN C) w) (us go (kN C) v) F' E' := by
  have b1 := cw_1 hW
  refine ⟨ctM_ad2 (px_c hP) hW hm h1 hr hF hE, fun g z x1 x2 x3 x4 => ?_, by rw [kN_ad2]; exact h13, fun q a b => ?_, fun q a b => ?_, h9⟩
  · rw [ad_n (by omega) (by omega)]
    exact (hE _ _ (by omega) (by omega) (by omega)).trans (px_s hP g z x1 x2 x3 x4)
  · rw [kN_ad2] at b
    by_cases y : q = kN C
    · rw [y, us_e]; exact hn
    · rw [us_n y, hE1 q y]; exact px_n hP q a (by omega)
  · rw [kN_ad2] at b
    by_cases y : q = kN C
    · rw [y, us_e]; exact hg
    · rw [us_n y, hE2 q y]; exact px_g hP q a (by omega)
theorem kN_ad3 : kN (adC C 3 (C 0 2 0) 2 row) = kN C + 1 := by
  unfold kN
  rw [ad_n (x := 3) (y := C 0 2 0) (c := 2) (x' := 0) (y' := 1) (by omega) (by omega), ad_c (by omega), ad_n (x := 3) (y := C 0 2 0) (c := 2) (x' := 0) (y' := 3) (by omega) (by omega), ad_n (x := 3) (y := C 0 2 0) (c := 2) (x' := 0) (y' := 4) (by omega) (by omega)]
  omega
theorem psW_ad3 (hP : psW C nm go) (hW : ctW (adC C 3 (C 0 2 0) 2 row)) (hz : C 0 0 0 ≠ 0) : psW (adC C 3 (C 0 2 0) 2 row) (us nm (kN C) w) (us go (kN C) (-1)) := by
  have n : ∀ x y z : Int, (x ≠ 3 ∨ y ≠ C 0 2 0) → (x ≠ 0 ∨ y ≠ 2 ∨ z ≠ 0) → adC C 3 (C 0 2 0) 2 row x y z = C x y z := fun x y z a b => ad_n a b
  refine ⟨hW, fun z => ?_, ?_, fun g a b => ?_, fun q a b => ?_⟩
  · rw [n 0 0 0 (by omega) (by omega)] at z; exact absurd z hz
  · rw [n 0 0 0 (by omega) (by omega)]; exact pw_2 hP
  · rw [n 4 g 0 (by omega) (by omega), n 4 g 1 (by omega) (by omega), n 4 g 2 (by omega) (by omega)]; exact pw_s hP g a b
  · rw [kN_ad3] at b
    rw [n 0 3 0 (by omega) (by omega)]
    by_cases y : q = kN C
    · rw [y, us_e]; exact Or.inl rfl
    · rw [us_n y]; exact pw_g hP q a (by omega)
theorem pxM_ad3 (hP : pxM r s C nm go F E) (hW : ctW C) (dis : s + 105 ≤ r ∨ r + 4 ≤ s) (hm : C 0 2 0 < 8) (h1 : F' s 2 = C 0 2 0 + 1) (h13 : F' r 13 = kN C + 1) (h9 : F' r 9 = 0) (hr : ∀ z : Int, 0 ≤ z → z < 2 → E' (s + 15 + C 0 2 0) z = row z) (hn : E' (r + 1) (kN C) = w) (hg : E' (r + 2) (kN C) = v) (hF : ∀ b j : Int, s ≤ b → b < s + 105 → (b ≠ s ∨ j ≠ 2) → F' b j = F b j) (hE : ∀ b j : Int, s ≤ b → b < s + 105 → b ≠ s + 15 + C 0 2 0 → E' b j = E b j) (hE1 : ∀ q : Int, q ≠ kN C → E' (r + 1) q = E (r + 1) q) (hE2 : ∀ q : Int, q ≠ kN C → E' (r + 2) q = E (r + 2) q) : pxM r s (adC C 3 (C 0 2 0) 2 row) (us nm (kN C) w) (us go (kN C) v) F' E' := by
  have b1 := cw_2 hW
  refine ⟨ctM_ad3 (px_c hP) hW hm h1 hr hF hE, fun g z x1 x2 x3 x4 => ?_, by rw [kN_ad3]; exact h13, fun q a b => ?_, fun q a b => ?_, h9⟩
  · rw [ad_n (by omega) (by omega)]
    exact (hE _ _ (by omega) (by omega) (by omega)).trans (px_s hP g z x1 x2 x3 x4)
  · rw [kN_ad3] at b
    by_cases y : q = kN C
    · rw [y, us_e]; exact hn
    · rw [us_n y, hE1 q y]; exact px_n hP q a (by omega)
  · rw [kN_ad3] at b
    by_cases y : q = kN C
    · rw [y, us_e]; exact hg
    · rw [us_n y, hE2 q y]; exact px_g hP q a (by omega)
theorem kN_ad5 : kN (adC C 5 (C 0 4 0) 4 row) = kN C + 1 := by
  unfold kN
  rw [ad_n (x := 5) (y := C 0 4 0) (c := 4) (x' := 0) (y' := 1) (by omega) (by omega), ad_n (x := 5) (y := C 0 4 0) (c := 4) (x' := 0) (y' := 2) (by omega) (by omega), ad_n (x := 5) (y := C 0 4 0) (c := 4) (x' := 0) (y' := 3) (by omega) (by omega), ad_c (by omega)]
  omega
theorem psW_ad5 (hP : psW C nm go) (hW : ctW (adC C 5 (C 0 4 0) 4 row)) (hz : C 0 0 0 ≠ 0) : psW (adC C 5 (C 0 4 0) 4 row) (us nm (kN C) w) (us go (kN C) (-1)) := by
  have n : ∀ x y z : Int, (x ≠ 5 ∨ y ≠ C 0 4 0) → (x ≠ 0 ∨ y ≠ 4 ∨ z ≠ 0) → adC C 5 (C 0 4 0) 4 row x y z = C x y z := fun x y z a b => ad_n a b
  refine ⟨hW, fun z => ?_, ?_, fun g a b => ?_, fun q a b => ?_⟩
  · rw [n 0 0 0 (by omega) (by omega)] at z; exact absurd z hz
  · rw [n 0 0 0 (by omega) (by omega)]; exact pw_2 hP
  · rw [n 4 g 0 (by omega) (by omega), n 4 g 1 (by omega) (by omega), n 4 g 2 (by omega) (by omega)]; exact pw_s hP g a b
  · rw [kN_ad5] at b
    rw [n 0 3 0 (by omega) (by omega)]
    by_cases y : q = kN C
    · rw [y, us_e]; exact Or.inl rfl
    · rw [us_n y]; exact pw_g hP q a (by omega)
theorem pxM_ad5 (hP : pxM r s C nm go F E) (hW : ctW C) (dis : s + 105 ≤ r ∨ r + 4 ≤ s) (hm : C 0 4 0 < 8) (h1 : F' s 4 = C 0 4 0 + 1) (h13 : F' r 13 = kN C + 1) (h9 : F' r 9 = 0) (hr : ∀ z : Int, 0 ≤ z → z < 6 → E' (s + 31 + C 0 4 0) z = row z) (hn : E' (r + 1) (kN C) = w) (hg : E' (r + 2) (kN C) = v) (hF : ∀ b j : Int, s ≤ b → b < s + 105 → (b ≠ s ∨ j ≠ 4) → F' b j = F b j) (hE : ∀ b j : Int, s ≤ b → b < s + 105 → b ≠ s + 31 + C 0 4 0 → E' b j = E b j) (hE1 : ∀ q : Int, q ≠ kN C → E' (r + 1) q = E (r + 1) q) (hE2 : ∀ q : Int, q ≠ kN C → E' (r + 2) q = E (r + 2) q) : pxM r s (adC C 5 (C 0 4 0) 4 row) (us nm (kN C) w) (us go (kN C) v) F' E' := by
  have b1 := cw_4 hW
  refine ⟨ctM_ad5 (px_c hP) hW hm h1 hr hF hE, fun g z x1 x2 x3 x4 => ?_, by rw [kN_ad5]; exact h13, fun q a b => ?_, fun q a b => ?_, h9⟩
  · rw [ad_n (by omega) (by omega)]
    exact (hE _ _ (by omega) (by omega) (by omega)).trans (px_s hP g z x1 x2 x3 x4)
  · rw [kN_ad5] at b
    by_cases y : q = kN C
    · rw [y, us_e]; exact hn
    · rw [us_n y, hE1 q y]; exact px_n hP q a (by omega)
  · rw [kN_ad5] at b
    by_cases y : q = kN C
    · rw [y, us_e]; exact hg
    · rw [us_n y, hE2 q y]; exact px_g hP q a (by omega)
theorem kN_ad4 : kN (adC C 4 g 9 row) = kN C := by
  unfold kN
  rw [ad_n (by omega) (by omega), ad_n (by omega) (by omega), ad_n (by omega) (by omega), ad_n (by omega) (by omega)]
theorem psW_ad4 (hP : psW C nm go) (hW : ctW (adC C 4 g 9 row)) (b0 : row 0 = 0 ∨ row 0 = 1) (b1 : 0 ≤ row 1 ∧ row 1 ≤ 999) (b2 : 0 ≤ row 2 ∧ row 2 ≤ 99) : psW (adC C 4 g 9 row) nm go := by
  have n : ∀ x y z : Int, (x ≠ 4 ∨ y ≠ g) → (x ≠ 0 ∨ y ≠ 9 ∨ z ≠ 0) → adC C 4 g 9 row x y z = C x y z := fun x y z a b => ad_n a b
  refine ⟨hW, ?_, ?_, fun q a b => ?_, fun q a b => ?_⟩
  · rw [n 0 0 0 (by omega) (by omega), n 0 1 0 (by omega) (by omega), n 0 2 0 (by omega) (by omega), n 0 4 0 (by omega) (by omega)]; exact pw_0 hP
  · rw [n 0 0 0 (by omega) (by omega)]; exact pw_2 hP
  · by_cases y : q = g
    · rw [y, ad_r, ad_r, ad_r]; exact ⟨b0, b1, b2⟩
    · rw [n 4 q 0 (by omega) (by omega), n 4 q 1 (by omega) (by omega), n 4 q 2 (by omega) (by omega)]; exact pw_s hP q a b
  · rw [kN_ad4] at b
    rw [n 0 3 0 (by omega) (by omega)]
    exact pw_g hP q a b
theorem pxM_ad4 (hP : pxM r s C nm go F E) (hW : ctW C) (g0 : 0 ≤ g) (g1 : g < 6) (h13 : F' r 13 = F r 13) (h9 : F' r 9 = 0) (hr : ∀ z : Int, 0 ≤ z → z < 3 → E' (s + 24 + g) z = row z) (hF : ∀ b j : Int, s ≤ b → b < s + 105 → F' b j = F b j) (hE : ∀ b j : Int, s ≤ b → b < s + 105 → b ≠ s + 24 + g → E' b j = E b j) (hE1 : ∀ q : Int, E' (r + 1) q = E (r + 1) q) (hE2 : ∀ q : Int, E' (r + 2) q = E (r + 2) q) : pxM r s (adC C 4 g 9 row) nm go F' E' := by
  refine ⟨ctM_ad4 (px_c hP) hW g0 g1 hr hF hE, fun q z x1 x2 x3 x4 => ?_, by rw [kN_ad4]; exact h13.trans (px_k hP), fun q a b => ?_, fun q a b => ?_, h9⟩
  · by_cases y : q = g
    · rw [y, ad_r]; exact hr z x3 x4
    · rw [ad_n (by omega) (by omega)]
      exact (hE _ _ (by omega) (by omega) (by omega)).trans (px_s hP q z x1 x2 x3 x4)
  · rw [kN_ad4] at b
    rw [hE1 q]; exact px_n hP q a b
  · rw [kN_ad4] at b
    rw [hE2 q]; exact px_g hP q a b
end PICT

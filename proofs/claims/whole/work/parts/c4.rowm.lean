/-! ===== the reference: a city while it is read ===== -/
def pmM (c : Int) (C : Cy) (nm go : Int → Int) (F E : Int → Int → Int) : Prop := (F c 0 = C 0 0 0) ∧ (F c 1 = C 0 1 0) ∧ (F c 2 = C 0 2 0) ∧ (F c 3 = C 0 3 0) ∧ (F c 4 = C 0 4 0) ∧ (F c 5 = kN C) ∧ (∀ g : Int, 0 ≤ g → g < C 0 0 0 → E (c + 1) g = C 1 g 0) ∧ (∀ g w : Int, 0 ≤ g → g < C 0 1 0 → 0 ≤ w → w < 7 → E (c + 7) (7 * g + w) = C 2 g w) ∧ (∀ g : Int, 0 ≤ g → g < 6 → E (c + 4) g = C 4 g 0) ∧ (∀ g : Int, 0 ≤ g → g < 6 → E (c + 2) g = C 4 g 1) ∧ (∀ g : Int, 0 ≤ g → g < 6 → E (c + 3) g = C 4 g 2) ∧ (∀ g : Int, 0 ≤ g → g < C 0 2 0 → E (c + 8) g = C 3 g 0) ∧ (∀ g : Int, 0 ≤ g → g < C 0 2 0 → E (c + 9) g = C 3 g 1) ∧ (∀ g : Int, 0 ≤ g → g < C 0 3 0 → E (c + 10) g = C 6 g 0) ∧ (∀ g : Int, 0 ≤ g → g < C 0 3 0 → E (c + 11) g = C 6 g 1) ∧ (∀ g : Int, 0 ≤ g → g < C 0 3 0 → E (c + 12) g = C 6 g 2) ∧ (∀ g : Int, 0 ≤ g → g < C 0 3 0 → E (c + 13) g = C 6 g 3) ∧ (∀ g : Int, 0 ≤ g → g < C 0 3 0 → E (c + 14) g = C 6 g 4) ∧ (∀ g : Int, 0 ≤ g → g < C 0 3 0 → E (c + 5) g = C 6 g 5) ∧ (∀ g : Int, 0 ≤ g → g < C 0 3 0 → E (c + 6) g = C 6 g 6) ∧ (∀ g : Int, 0 ≤ g → g < C 0 4 0 → E (c + 15) g = C 5 g 0) ∧ (∀ g : Int, 0 ≤ g → g < C 0 4 0 → E (c + 16) g = C 5 g 1) ∧ (∀ g : Int, 0 ≤ g → g < C 0 4 0 → E (c + 17) g = C 5 g 2) ∧ (∀ g : Int, 0 ≤ g → g < C 0 4 0 → E (c + 18) g = C 5 g 3) ∧ (∀ g : Int, 0 ≤ g → g < C 0 4 0 → E (c + 19) g = C 5 g 4) ∧ (∀ g : Int, 0 ≤ g → g < C 0 4 0 → E (c + 20) g = C 5 g 5) ∧ (∀ q : Int, 0 ≤ q → q < kN C → E (c + 21) q = nm q) ∧ (∀ q : Int, 0 ≤ q → q < kN C → E (c + 22) q = go q)
theorem pm_0 {c : Int} {C : Cy} {nm go : Int → Int} {F E : Int → Int → Int} (h : pmM c C nm go F E) : F c 0 = C 0 0 0 := h.1
theorem pm_1 {c : Int} {C : Cy} {nm go : Int → Int} {F E : Int → Int → Int} (h : pmM c C nm go F E) : F c 1 = C 0 1 0 := h.2.1
theorem pm_2 {c : Int} {C : Cy} {nm go : Int → Int} {F E : Int → Int → Int} (h : pmM c C nm go F E) : F c 2 = C 0 2 0 := h.2.2.1
theorem pm_3 {c : Int} {C : Cy} {nm go : Int → Int} {F E : Int → Int → Int} (h : pmM c C nm go F E) : F c 3 = C 0 3 0 := h.2.2.2.1
theorem pm_4 {c : Int} {C : Cy} {nm go : Int → Int} {F E : Int → Int → Int} (h : pmM c C nm go F E) : F c 4 = C 0 4 0 := h.2.2.2.2.1
theorem pm_5 {c : Int} {C : Cy} {nm go : Int → Int} {F E : Int → Int → Int} (h : pmM c C nm go F E) : F c 5 = kN C := h.2.2.2.2.2.1
theorem pm_w {c : Int} {C : Cy} {nm go : Int → Int} {F E : Int → Int → Int} (h : pmM c C nm go F E) : ∀ g : Int, 0 ≤ g → g < C 0 0 0 → E (c + 1) g = C 1 g 0 := h.2.2.2.2.2.2.1
theorem pm_g {c : Int} {C : Cy} {nm go : Int → Int} {F E : Int → Int → Int} (h : pmM c C nm go F E) : ∀ g w : Int, 0 ≤ g → g < C 0 1 0 → 0 ≤ w → w < 7 → E (c + 7) (7 * g + w) = C 2 g w := h.2.2.2.2.2.2.2.1
theorem pm_s0 {c : Int} {C : Cy} {nm go : Int → Int} {F E : Int → Int → Int} (h : pmM c C nm go F E) : ∀ g : Int, 0 ≤ g → g < 6 → E (c + 4) g = C 4 g 0 := h.2.2.2.2.2.2.2.2.1
theorem pm_s1 {c : Int} {C : Cy} {nm go : Int → Int} {F E : Int → Int → Int} (h : pmM c C nm go F E) : ∀ g : Int, 0 ≤ g → g < 6 → E (c + 2) g = C 4 g 1 := h.2.2.2.2.2.2.2.2.2.1
theorem pm_s2 {c : Int} {C : Cy} {nm go : Int → Int} {F E : Int → Int → Int} (h : pmM c C nm go F E) : ∀ g : Int, 0 ≤ g → g < 6 → E (c + 3) g = C 4 g 2 := h.2.2.2.2.2.2.2.2.2.2.1
theorem pm_c0 {c : Int} {C : Cy} {nm go : Int → Int} {F E : Int → Int → Int} (h : pmM c C nm go F E) : ∀ g : Int, 0 ≤ g → g < C 0 2 0 → E (c + 8) g = C 3 g 0 := h.2.2.2.2.2.2.2.2.2.2.2.1
theorem pm_c1 {c : Int} {C : Cy} {nm go : Int → Int} {F E : Int → Int → Int} (h : pmM c C nm go F E) : ∀ g : Int, 0 ≤ g → g < C 0 2 0 → E (c + 9) g = C 3 g 1 := h.2.2.2.2.2.2.2.2.2.2.2.2.1
theorem pm_k0 {c : Int} {C : Cy} {nm go : Int → Int} {F E : Int → Int → Int} (h : pmM c C nm go F E) : ∀ g : Int, 0 ≤ g → g < C 0 3 0 → E (c + 10) g = C 6 g 0 := h.2.2.2.2.2.2.2.2.2.2.2.2.2.1
theorem pm_k1 {c : Int} {C : Cy} {nm go : Int → Int} {F E : Int → Int → Int} (h : pmM c C nm go F E) : ∀ g : Int, 0 ≤ g → g < C 0 3 0 → E (c + 11) g = C 6 g 1 := h.2.2.2.2.2.2.2.2.2.2.2.2.2.2.1
theorem pm_k2 {c : Int} {C : Cy} {nm go : Int → Int} {F E : Int → Int → Int} (h : pmM c C nm go F E) : ∀ g : Int, 0 ≤ g → g < C 0 3 0 → E (c + 12) g = C 6 g 2 := h.2.2.2.2.2.2.2.2.2.2.2.2.2.2.2.1
theorem pm_k3 {c : Int} {C : Cy} {nm go : Int → Int} {F E : Int → Int → Int} (h : pmM c C nm go F E) : ∀ g : Int, 0 ≤ g → g < C 0 3 0 → E (c + 13) g = C 6 g 3 := h.2.2.2.2.2.2.2.2.2.2.2.2.2.2.2.2.1
theorem pm_k4 {c : Int} {C : Cy} {nm go : Int → Int} {F E : Int → Int → Int} (h : pmM c C nm go F E) : ∀ g : Int, 0 ≤ g → g < C 0 3 0 → E (c + 14) g = C 6 g 4 := h.2.2.2.2.2.2.2.2.2.2.2.2.2.2.2.2.2.1
theorem pm_k5 {c : Int} {C : Cy} {nm go : Int → Int} {F E : Int → Int → Int} (h : pmM c C nm go F E) : ∀ g : Int, 0 ≤ g → g < C 0 3 0 → E (c + 5) g = C 6 g 5 := h.2.2.2.2.2.2.2.2.2.2.2.2.2.2.2.2.2.2.1
theorem pm_k6 {c : Int} {C : Cy} {nm go : Int → Int} {F E : Int → Int → Int} (h : pmM c C nm go F E) : ∀ g : Int, 0 ≤ g → g < C 0 3 0 → E (c + 6) g = C 6 g 6 := h.2.2.2.2.2.2.2.2.2.2.2.2.2.2.2.2.2.2.2.1
theorem pm_o0 {c : Int} {C : Cy} {nm go : Int → Int} {F E : Int → Int → Int} (h : pmM c C nm go F E) : ∀ g : Int, 0 ≤ g → g < C 0 4 0 → E (c + 15) g = C 5 g 0 := h.2.2.2.2.2.2.2.2.2.2.2.2.2.2.2.2.2.2.2.2.1
theorem pm_o1 {c : Int} {C : Cy} {nm go : Int → Int} {F E : Int → Int → Int} (h : pmM c C nm go F E) : ∀ g : Int, 0 ≤ g → g < C 0 4 0 → E (c + 16) g = C 5 g 1 := h.2.2.2.2.2.2.2.2.2.2.2.2.2.2.2.2.2.2.2.2.2.1
theorem pm_o2 {c : Int} {C : Cy} {nm go : Int → Int} {F E : Int → Int → Int} (h : pmM c C nm go F E) : ∀ g : Int, 0 ≤ g → g < C 0 4 0 → E (c + 17) g = C 5 g 2 := h.2.2.2.2.2.2.2.2.2.2.2.2.2.2.2.2.2.2.2.2.2.2.1
theorem pm_o3 {c : Int} {C : Cy} {nm go : Int → Int} {F E : Int → Int → Int} (h : pmM c C nm go F E) : ∀ g : Int, 0 ≤ g → g < C 0 4 0 → E (c + 18) g = C 5 g 3 := h.2.2.2.2.2.2.2.2.2.2.2.2.2.2.2.2.2.2.2.2.2.2.2.1
theorem pm_o4 {c : Int} {C : Cy} {nm go : Int → Int} {F E : Int → Int → Int} (h : pmM c C nm go F E) : ∀ g : Int, 0 ≤ g → g < C 0 4 0 → E (c + 19) g = C 5 g 4 := h.2.2.2.2.2.2.2.2.2.2.2.2.2.2.2.2.2.2.2.2.2.2.2.2.1
theorem pm_o5 {c : Int} {C : Cy} {nm go : Int → Int} {F E : Int → Int → Int} (h : pmM c C nm go F E) : ∀ g : Int, 0 ≤ g → g < C 0 4 0 → E (c + 20) g = C 5 g 5 := h.2.2.2.2.2.2.2.2.2.2.2.2.2.2.2.2.2.2.2.2.2.2.2.2.2.1
theorem pm_n {c : Int} {C : Cy} {nm go : Int → Int} {F E : Int → Int → Int} (h : pmM c C nm go F E) : ∀ q : Int, 0 ≤ q → q < kN C → E (c + 21) q = nm q := h.2.2.2.2.2.2.2.2.2.2.2.2.2.2.2.2.2.2.2.2.2.2.2.2.2.2.1
theorem pm_q {c : Int} {C : Cy} {nm go : Int → Int} {F E : Int → Int → Int} (h : pmM c C nm go F E) : ∀ q : Int, 0 ≤ q → q < kN C → E (c + 22) q = go q := h.2.2.2.2.2.2.2.2.2.2.2.2.2.2.2.2.2.2.2.2.2.2.2.2.2.2.2
def rmX (m c : Int) (F F' E E' : Int → Int → Int) : Prop := (∀ b j : Int, (b ≠ m ∨ j < 8 ∨ 15 < j) → (b < c ∨ c + 23 ≤ b) → F' b j = F b j) ∧ ∀ b j : Int, (b < c ∨ c + 23 ≤ b) → E' b j = E b j
theorem rmX.s {m c : Int} {F E : Int → Int → Int} : rmX m c F F E E := ⟨fun _ _ _ _ => rfl, fun _ _ _ => rfl⟩
theorem rmX.t {m c : Int} {F F' F'' E E' E'' : Int → Int → Int} (h : rmX m c F F' E E') (h' : rmX m c F' F'' E' E'') : rmX m c F F'' E E'' := ⟨fun b j u v => (h'.1 b j u v).trans (h.1 b j u v), fun b j u => (h'.2 b j u).trans (h.2 b j u)⟩
theorem rmX.k {m c : Int} {F F' E : Int → Int → Int} (h : mkX m F F') : rmX m c F F' E E := ⟨fun b j u _ => h b j u, fun _ _ _ => rfl⟩
theorem pmM.fr {c : Int} {C : Cy} {nm go : Int → Int} {F F' E : Int → Int → Int} (h : pmM c C nm go F E) (hF : ∀ j : Int, F' c j = F c j) : pmM c C nm go F' E := ⟨(hF _).trans (pm_0 h), (hF _).trans (pm_1 h), (hF _).trans (pm_2 h), (hF _).trans (pm_3 h), (hF _).trans (pm_4 h), (hF _).trans (pm_5 h), h.2.2.2.2.2.2⟩
theorem pmM.mk {m c : Int} {C : Cy} {nm go : Int → Int} {F F' E : Int → Int → Int} (h : pmM c C nm go F E) (cm : c ≠ m) (hF : mkX m F F') : pmM c C nm go F' E := h.fr (fun j => hF _ _ (Or.inl cm))
section ROWM
variable {F F' E E' : Int → Int → Int} {c g v w cn : Int} {C : Cy} {nm go row : Int → Int}
theorem pmM_ad2 (hP : pmM c C nm go F E) (hW : ctW C) (hF : ∀ j : Int, j ≠ 1 → j ≠ 5 → F' c j = F c j) (h1 : F' c 1 = C 0 1 0 + 1) (h5 : F' c 5 = kN C + 1) (hr : ∀ z : Int, 0 ≤ z → z < 7 → E' (c + 7) (7 * C 0 1 0 + z) = row z) (hn : E' (c + 21) (kN C) = w) (hg : E' (c + 22) (kN C) = v) (hE : ∀ b j : Int, c < b → b < c + 23 → ((b = c + 7) → j < 7 * C 0 1 0) → (b = c + 21 → j < kN C) → (b = c + 22 → j < kN C) → E' b j = E b j) : pmM c (adC C 2 (C 0 1 0) 1 row) (us nm (kN C) w) (us go (kN C) v) F' E' := by
  have b0 := cw_0 hW
  have b1 := cw_1 hW
  have b2 := cw_2 hW
  have b3 := cw_3 hW
  have b4 := cw_4 hW
  have kd : kN C = C 0 1 0 + C 0 2 0 + C 0 3 0 + C 0 4 0 := rfl
  have q0 : (adC C 2 (C 0 1 0) 1 row) 0 0 0 = C 0 0 0 := ad_n (by omega) (by omega)
  have q2 : (adC C 2 (C 0 1 0) 1 row) 0 2 0 = C 0 2 0 := ad_n (by omega) (by omega)
  have q3 : (adC C 2 (C 0 1 0) 1 row) 0 3 0 = C 0 3 0 := ad_n (by omega) (by omega)
  have q4 : (adC C 2 (C 0 1 0) 1 row) 0 4 0 = C 0 4 0 := ad_n (by omega) (by omega)
  have qk : (adC C 2 (C 0 1 0) 1 row) 0 1 0 = C 0 1 0 + 1 := ad_c (by omega)
  have kk : kN (adC C 2 (C 0 1 0) 1 row) = kN C + 1 := kN_ad2
  refine ⟨?_, ?_, ?_, ?_, ?_, ?_, ?_, ?_, ?_, ?_, ?_, ?_, ?_, ?_, ?_, ?_, ?_, ?_, ?_, ?_, ?_, ?_, ?_, ?_, ?_, ?_, ?_, ?_⟩
  · exact (hF _ (by omega) (by omega)).trans ((pm_0 hP).trans q0.symm)
  · exact h1.trans qk.symm
  · exact (hF _ (by omega) (by omega)).trans ((pm_2 hP).trans q2.symm)
  · exact (hF _ (by omega) (by omega)).trans ((pm_3 hP).trans q3.symm)
  · exact (hF _ (by omega) (by omega)).trans ((pm_4 hP).trans q4.symm)
  · exact h5.trans kk.symm
  · exact fun g a b => by rw [q0] at b; rw [ad_n (by omega) (by omega)]; exact (hE _ _ (by omega) (by omega) (by omega) (by omega) (by omega)).trans (pm_w hP g a b)
  · exact fun g w a b x1 x2 => by
      rw [qk] at b
      by_cases z : g = C 0 1 0
      · rw [z, ad_r]; exact hr w x1 x2
      · rw [ad_n (by omega) (by omega)]; exact (hE _ _ (by omega) (by omega) (by omega) (by omega) (by omega)).trans (pm_g hP g w a (by omega) x1 x2)
  · exact fun g a b => by rw [ad_n (by omega) (by omega)]; exact (hE _ _ (by omega) (by omega) (by omega) (by omega) (by omega)).trans (pm_s0 hP g a b)
  · exact fun g a b => by rw [ad_n (by omega) (by omega)]; exact (hE _ _ (by omega) (by omega) (by omega) (by omega) (by omega)).trans (pm_s1 hP g a b)
  · exact fun g a b => by rw [ad_n (by omega) (by omega)]; exact (hE _ _ (by omega) (by omega) (by omega) (by omega) (by omega)).trans (pm_s2 hP g a b)
  · exact fun g a b => by rw [q2] at b; rw [ad_n (by omega) (by omega)]; exact (hE _ _ (by omega) (by omega) (by omega) (by omega) (by omega)).trans (pm_c0 hP g a b)
  · exact fun g a b => by rw [q2] at b; rw [ad_n (by omega) (by omega)]; exact (hE _ _ (by omega) (by omega) (by omega) (by omega) (by omega)).trans (pm_c1 hP g a b)
  · exact fun g a b => by rw [q3] at b; rw [ad_n (by omega) (by omega)]; exact (hE _ _ (by omega) (by omega) (by omega) (by omega) (by omega)).trans (pm_k0 hP g a b)
  · exact fun g a b => by rw [q3] at b; rw [ad_n (by omega) (by omega)]; exact (hE _ _ (by omega) (by omega) (by omega) (by omega) (by omega)).trans (pm_k1 hP g a b)
  · exact fun g a b => by rw [q3] at b; rw [ad_n (by omega) (by omega)]; exact (hE _ _ (by omega) (by omega) (by omega) (by omega) (by omega)).trans (pm_k2 hP g a b)
  · exact fun g a b => by rw [q3] at b; rw [ad_n (by omega) (by omega)]; exact (hE _ _ (by omega) (by omega) (by omega) (by omega) (by omega)).trans (pm_k3 hP g a b)
  · exact fun g a b => by rw [q3] at b; rw [ad_n (by omega) (by omega)]; exact (hE _ _ (by omega) (by omega) (by omega) (by omega) (by omega)).trans (pm_k4 hP g a b)
  · exact fun g a b => by rw [q3] at b; rw [ad_n (by omega) (by omega)]; exact (hE _ _ (by omega) (by omega) (by omega) (by omega) (by omega)).trans (pm_k5 hP g a b)
  · exact fun g a b => by rw [q3] at b; rw [ad_n (by omega) (by omega)]; exact (hE _ _ (by omega) (by omega) (by omega) (by omega) (by omega)).trans (pm_k6 hP g a b)
  · exact fun g a b => by rw [q4] at b; rw [ad_n (by omega) (by omega)]; exact (hE _ _ (by omega) (by omega) (by omega) (by omega) (by omega)).trans (pm_o0 hP g a b)
  · exact fun g a b => by rw [q4] at b; rw [ad_n (by omega) (by omega)]; exact (hE _ _ (by omega) (by omega) (by omega) (by omega) (by omega)).trans (pm_o1 hP g a b)
  · exact fun g a b => by rw [q4] at b; rw [ad_n (by omega) (by omega)]; exact (hE _ _ (by omega) (by omega) (by omega) (by omega) (by omega)).trans (pm_o2 hP g a b)
  · exact fun g a b => by rw [q4] at b; rw [ad_n (by omega) (by omega)]; exact (hE _ _ (by omega) (by omega) (by omega) (by omega) (by omega)).trans (pm_o3 hP g a b)
  · exact fun g a b => by rw [q4] at b; rw [ad_n (by omega) (by omega)]; exact (hE _ _ (by omega) (by omega) (by omega) (by omega) (by omega)).trans (pm_o4 hP g a b)
  · exact fun g a b => by rw [q4] at b; rw [ad_n (by omega) (by omega)]; exact (hE _ _ (by omega) (by omega) (by omega) (by omega) (by omega)).trans (pm_o5 hP g a b)
  · exact fun q a b => by
      rw [kk] at b
      by_cases z : q = kN C
      · rw [z, us_e]; exact hn
      · rw [us_n z]; exact (hE _ _ (by omega) (by omega) (by omega) (by omega) (by omega)).trans (pm_n hP q a (by omega))
  · exact fun q a b => by
      rw [kk] at b
      by_cases z : q = kN C
      · rw [z, us_e]; exact hg
      · rw [us_n z]; exact (hE _ _ (by omega) (by omega) (by omega) (by omega) (by omega)).trans (pm_q hP q a (by omega))
theorem pmM_ad3 (hP : pmM c C nm go F E) (hW : ctW C) (hF : ∀ j : Int, j ≠ 2 → j ≠ 5 → F' c j = F c j) (h1 : F' c 2 = C 0 2 0 + 1) (h5 : F' c 5 = kN C + 1) (hr0 : E' (c + 8) (C 0 2 0) = row 0) (hr1 : E' (c + 9) (C 0 2 0) = row 1) (hn : E' (c + 21) (kN C) = w) (hg : E' (c + 22) (kN C) = v) (hE : ∀ b j : Int, c < b → b < c + 23 → ((b = c + 8 ∨ b = c + 9) → j < C 0 2 0) → (b = c + 21 → j < kN C) → (b = c + 22 → j < kN C) → E' b j = E b j) : pmM c (adC C 3 (C 0 2 0) 2 row) (us nm (kN C) w) (us go (kN C) v) F' E' := by
  have b0 := cw_0 hW
  have b1 := cw_1 hW
  have b2 := cw_2 hW
  have b3 := cw_3 hW
  have b4 := cw_4 hW
  have kd : kN C = C 0 1 0 + C 0 2 0 + C 0 3 0 + C 0 4 0 := rfl
  have q0 : (adC C 3 (C 0 2 0) 2 row) 0 0 0 = C 0 0 0 := ad_n (by omega) (by omega)
  have q1 : (adC C 3 (C 0 2 0) 2 row) 0 1 0 = C 0 1 0 := ad_n (by omega) (by omega)
  have q3 : (adC C 3 (C 0 2 0) 2 row) 0 3 0 = C 0 3 0 := ad_n (by omega) (by omega)
  have q4 : (adC C 3 (C 0 2 0) 2 row) 0 4 0 = C 0 4 0 := ad_n (by omega) (by omega)
  have qk : (adC C 3 (C 0 2 0) 2 row) 0 2 0 = C 0 2 0 + 1 := ad_c (by omega)
  have kk : kN (adC C 3 (C 0 2 0) 2 row) = kN C + 1 := kN_ad3
  refine ⟨?_, ?_, ?_, ?_, ?_, ?_, ?_, ?_, ?_, ?_, ?_, ?_, ?_, ?_, ?_, ?_, ?_, ?_, ?_, ?_, ?_, ?_, ?_, ?_, ?_, ?_, ?_, ?_⟩
  · exact (hF _ (by omega) (by omega)).trans ((pm_0 hP).trans q0.symm)
  · exact (hF _ (by omega) (by omega)).trans ((pm_1 hP).trans q1.symm)
  · exact h1.trans qk.symm
  · exact (hF _ (by omega) (by omega)).trans ((pm_3 hP).trans q3.symm)
  · exact (hF _ (by omega) (by omega)).trans ((pm_4 hP).trans q4.symm)
  · exact h5.trans kk.symm
  · exact fun g a b => by rw [q0] at b; rw [ad_n (by omega) (by omega)]; exact (hE _ _ (by omega) (by omega) (by omega) (by omega) (by omega)).trans (pm_w hP g a b)
  · exact fun g w a b x1 x2 => by rw [q1] at b; rw [ad_n (by omega) (by omega)]; exact (hE _ _ (by omega) (by omega) (by omega) (by omega) (by omega)).trans (pm_g hP g w a b x1 x2)
  · exact fun g a b => by rw [ad_n (by omega) (by omega)]; exact (hE _ _ (by omega) (by omega) (by omega) (by omega) (by omega)).trans (pm_s0 hP g a b)
  · exact fun g a b => by rw [ad_n (by omega) (by omega)]; exact (hE _ _ (by omega) (by omega) (by omega) (by omega) (by omega)).trans (pm_s1 hP g a b)
  · exact fun g a b => by rw [ad_n (by omega) (by omega)]; exact (hE _ _ (by omega) (by omega) (by omega) (by omega) (by omega)).trans (pm_s2 hP g a b)
  · exact fun g a b => by
      rw [qk] at b
      by_cases z : g = C 0 2 0
      · rw [z, ad_r]; exact hr0
      · rw [ad_n (by omega) (by omega)]; exact (hE _ _ (by omega) (by omega) (by omega) (by omega) (by omega)).trans (pm_c0 hP g a (by omega))
  · exact fun g a b => by
      rw [qk] at b
      by_cases z : g = C 0 2 0
      · rw [z, ad_r]; exact hr1
      · rw [ad_n (by omega) (by omega)]; exact (hE _ _ (by omega) (by omega) (by omega) (by omega) (by omega)).trans (pm_c1 hP g a (by omega))
  · exact fun g a b => by rw [q3] at b; rw [ad_n (by omega) (by omega)]; exact (hE _ _ (by omega) (by omega) (by omega) (by omega) (by omega)).trans (pm_k0 hP g a b)
  · exact fun g a b => by rw [q3] at b; rw [ad_n (by omega) (by omega)]; exact (hE _ _ (by omega) (by omega) (by omega) (by omega) (by omega)).trans (pm_k1 hP g a b)
  · exact fun g a b => by rw [q3] at b; rw [ad_n (by omega) (by omega)]; exact (hE _ _ (by omega) (by omega) (by omega) (by omega) (by omega)).trans (pm_k2 hP g a b)
  · exact fun g a b => by rw [q3] at b; rw [ad_n (by omega) (by omega)]; exact (hE _ _ (by omega) (by omega) (by omega) (by omega) (by omega)).trans (pm_k3 hP g a b)
  · exact fun g a b => by rw [q3] at b; rw [ad_n (by omega) (by omega)]; exact (hE _ _ (by omega) (by omega) (by omega) (by omega) (by omega)).trans (pm_k4 hP g a b)
  · exact fun g a b => by rw [q3] at b; rw [ad_n (by omega) (by omega)]; exact (hE _ _ (by omega) (by omega) (by omega) (by omega) (by omega)).trans (pm_k5 hP g a b)
  · exact fun g a b => by rw [q3] at b; rw [ad_n (by omega) (by omega)]; exact (hE _ _ (by omega) (by omega) (by omega) (by omega) (by omega)).trans (pm_k6 hP g a b)
  · exact fun g a b => by rw [q4] at b; rw [ad_n (by omega) (by omega)]; exact (hE _ _ (by omega) (by omega) (by omega) (by omega) (by omega)).trans (pm_o0 hP g a b)
  · exact fun g a b => by rw [q4] at b; rw [ad_n (by omega) (by omega)]; exact (hE _ _ (by omega) (by omega) (by omega) (by omega) (by omega)).trans (pm_o1 hP g a b)
  · exact fun g a b => by rw [q4] at b; rw [ad_n (by omega) (by omega)]; exact (hE _ _ (by omega) (by omega) (by omega) (by omega) (by omega)).trans (pm_o2 hP g a b)
  · exact fun g a b => by rw [q4] at b; rw [ad_n (by omega) (by omega)]; exact (hE _ _ (by omega) (by omega) (by omega) (by omega) (by omega)).trans (pm_o3 hP g a b)
  · exact fun g a b => by rw [q4] at b; rw [ad_n (by omega) (by omega)]; exact (hE _ _ (by omega) (by omega) (by omega) (by omega) (by omega)).trans (pm_o4 hP g a b)
  · exact fun g a b => by rw [q4] at b; rw [ad_n (by omega) (by omega)]; exact (hE _ _ (by omega) (by omega) (by omega) (by omega) (by omega)).trans (pm_o5 hP g a b)
  · exact fun q a b => by
      rw [kk] at b
      by_cases z : q = kN C
      · rw [z, us_e]; exact hn
      · rw [us_n z]; exact (hE _ _ (by omega) (by omega) (by omega) (by omega) (by omega)).trans (pm_n hP q a (by omega))
  · exact fun q a b => by
      rw [kk] at b
      by_cases z : q = kN C
      · rw [z, us_e]; exact hg
      · rw [us_n z]; exact (hE _ _ (by omega) (by omega) (by omega) (by omega) (by omega)).trans (pm_q hP q a (by omega))
theorem pmM_ad5 (hP : pmM c C nm go F E) (hW : ctW C) (hF : ∀ j : Int, j ≠ 4 → j ≠ 5 → F' c j = F c j) (h1 : F' c 4 = C 0 4 0 + 1) (h5 : F' c 5 = kN C + 1) (hr0 : E' (c + 15) (C 0 4 0) = row 0) (hr1 : E' (c + 16) (C 0 4 0) = row 1) (hr2 : E' (c + 17) (C 0 4 0) = row 2) (hr3 : E' (c + 18) (C 0 4 0) = row 3) (hr4 : E' (c + 19) (C 0 4 0) = row 4) (hr5 : E' (c + 20) (C 0 4 0) = row 5) (hn : E' (c + 21) (kN C) = w) (hg : E' (c + 22) (kN C) = v) (hE : ∀ b j : Int, c < b → b < c + 23 → ((b = c + 15 ∨ b = c + 16 ∨ b = c + 17 ∨ b = c + 18 ∨ b = c + 19 ∨ b = c + 20) → j < C 0 4 0) → (b = c + 21 → j < kN C) → (b = c + 22 → j < kN C) → E' b j = E b j) : pmM c (adC C 5 (C 0 4 0) 4 row) (us nm (kN C) w) (us go (kN C) v) F' E' := by
  have b0 := cw_0 hW
  have b1 := cw_1 hW
  have b2 := cw_2 hW
  have b3 := cw_3 hW
  have b4 := cw_4 hW
  have kd : kN C = C 0 1 0 + C 0 2 0 + C 0 3 0 + C 0 4 0 := rfl
  have q0 : (adC C 5 (C 0 4 0) 4 row) 0 0 0 = C 0 0 0 := ad_n (by omega) (by omega)
  have q1 : (adC C 5 (C 0 4 0) 4 row) 0 1 0 = C 0 1 0 := ad_n (by omega) (by omega)
  have q2 : (adC C 5 (C 0 4 0) 4 row) 0 2 0 = C 0 2 0 := ad_n (by omega) (by omega)
  have q3 : (adC C 5 (C 0 4 0) 4 row) 0 3 0 = C 0 3 0 := ad_n (by omega) (by omega)
  have qk : (adC C 5 (C 0 4 0) 4 row) 0 4 0 = C 0 4 0 + 1 := ad_c (by omega)
  have kk : kN (adC C 5 (C 0 4 0) 4 row) = kN C + 1 := kN_ad5
  refine ⟨?_, ?_, ?_, ?_, ?_, ?_, ?_, ?_, ?_, ?_, ?_, ?_, ?_, ?_, ?_, ?_, ?_, ?_, ?_, ?_, ?_, ?_, ?_, ?_, ?_, ?_, ?_, ?_⟩
  · exact (hF _ (by omega) (by omega)).trans ((pm_0 hP).trans q0.symm)
  · exact (hF _ (by omega) (by omega)).trans ((pm_1 hP).trans q1.symm)
  · exact (hF _ (by omega) (by omega)).trans ((pm_2 hP).trans q2.symm)
  · exact (hF _ (by omega) (by omega)).trans ((pm_3 hP).trans q3.symm)
  · exact h1.trans qk.symm
  · exact h5.trans kk.symm
  · exact fun g a b => by rw [q0] at b; rw [ad_n (by omega) (by omega)]; exact (hE _ _ (by omega) (by omega) (by omega) (by omega) (by omega)).trans (pm_w hP g a b)
  · exact fun g w a b x1 x2 => by rw [q1] at b; rw [ad_n (by omega) (by omega)]; exact (hE _ _ (by omega) (by omega) (by omega) (by omega) (by omega)).trans (pm_g hP g w a b x1 x2)
  · exact fun g a b => by rw [ad_n (by omega) (by omega)]; exact (hE _ _ (by omega) (by omega) (by omega) (by omega) (by omega)).trans (pm_s0 hP g a b)
  · exact fun g a b => by rw [ad_n (by omega) (by omega)]; exact (hE _ _ (by omega) (by omega) (by omega) (by omega) (by omega)).trans (pm_s1 hP g a b)
  · exact fun g a b => by rw [ad_n (by omega) (by omega)]; exact (hE _ _ (by omega) (by omega) (by omega) (by omega) (by omega)).trans (pm_s2 hP g a b)
  · exact fun g a b => by rw [q2] at b; rw [ad_n (by omega) (by omega)]; exact (hE _ _ (by omega) (by omega) (by omega) (by omega) (by omega)).trans (pm_c0 hP g a b)
  · exact fun g a b => by rw [q2] at b; rw [ad_n (by omega) (by omega)]; exact (hE _ _ (by omega) (by omega) (by omega) (by omega) (by omega)).trans (pm_c1 hP g a b)
  · exact fun g a b => by rw [q3] at b; rw [ad_n (by omega) (by omega)]; exact (hE _ _ (by omega) (by omega) (by omega) (by omega) (by omega)).trans (pm_k0 hP g a b)
  · exact fun g a b => by rw [q3] at b; rw [ad_n (by omega) (by omega)]; exact (hE _ _ (by omega) (by omega) (by omega) (by omega) (by omega)).trans (pm_k1 hP g a b)
  · exact fun g a b => by rw [q3] at b; rw [ad_n (by omega) (by omega)]; exact (hE _ _ (by omega) (by omega) (by omega) (by omega) (by omega)).trans (pm_k2 hP g a b)
  · exact fun g a b => by rw [q3] at b; rw [ad_n (by omega) (by omega)]; exact (hE _ _ (by omega) (by omega) (by omega) (by omega) (by omega)).trans (pm_k3 hP g a b)
  · exact fun g a b => by rw [q3] at b; rw [ad_n (by omega) (by omega)]; exact (hE _ _ (by omega) (by omega) (by omega) (by omega) (by omega)).trans (pm_k4 hP g a b)
  · exact fun g a b => by rw [q3] at b; rw [ad_n (by omega) (by omega)]; exact (hE _ _ (by omega) (by omega) (by omega) (by omega) (by omega)).trans (pm_k5 hP g a b)
  · exact fun g a b => by rw [q3] at b; rw [ad_n (by omega) (by omega)]; exact (hE _ _ (by omega) (by omega) (by omega) (by omega) (by omega)).trans (pm_k6 hP g a b)
  · exact fun g a b => by
      rw [qk] at b
      by_cases z : g = C 0 4 0
      · rw [z, ad_r]; exact hr0
      · rw [ad_n (by omega) (by omega)]; exact (hE _ _ (by omega) (by omega) (by omega) (by omega) (by omega)).trans (pm_o0 hP g a (by omega))
  · exact fun g a b => by
      rw [qk] at b
      by_cases z : g = C 0 4 0
      · rw [z, ad_r]; exact hr1
      · rw [ad_n (by omega) (by omega)]; exact (hE _ _ (by omega) (by omega) (by omega) (by omega) (by omega)).trans (pm_o1 hP g a (by omega))
  · exact fun g a b => by
      rw [qk] at b
      by_cases z : g = C 0 4 0
      · rw [z, ad_r]; exact hr2
      · rw [ad_n (by omega) (by omega)]; exact (hE _ _ (by omega) (by omega) (by omega) (by omega) (by omega)).trans (pm_o2 hP g a (by omega))
  · exact fun g a b => by
      rw [qk] at b
      by_cases z : g = C 0 4 0
      · rw [z, ad_r]; exact hr3
      · rw [ad_n (by omega) (by omega)]; exact (hE _ _ (by omega) (by omega) (by omega) (by omega) (by omega)).trans (pm_o3 hP g a (by omega))
  · exact fun g a b => by
      rw [qk] at b
      by_cases z : g = C 0 4 0
      · rw [z, ad_r]; exact hr4
      · rw [ad_n (by omega) (by omega)]; exact (hE _ _ (by omega) (by omega) (by omega) (by omega) (by omega)).trans (pm_o4 hP g a (by omega))
  · exact fun g a b => by
      rw [qk] at b
      by_cases z : g = C 0 4 0
      · rw [z, ad_r]; exact hr5
      · rw [ad_n (by omega) (by omega)]; exact (hE _ _ (by omega) (by omega) (by omega) (by omega) (by omega)).trans (pm_o5 hP g a (by omega))
  · exact fun q a b => by
      rw [kk] at b
      by_cases z : q = kN C
      · rw [z, us_e]; exact hn
      · rw [us_n z]; exact (hE _ _ (by omega) (by omega) (by omega) (by omega) (by omega)).trans (pm_n hP q a (by omega))
  · exact fun q a b => by
      rw [kk] at b
      by_cases z : q = kN C
      · rw [z, us_e]; exact hg
      · rw [us_n z]; exact (hE _ _ (by omega) (by omega) (by omega) (by omega) (by omega)).trans (pm_q hP q a (by omega))
theorem pmM_ad6 (hP : pmM c C nm go F E) (hW : ctW C) (hF : ∀ j : Int, j ≠ 3 → j ≠ 5 → F' c j = F c j) (h1 : F' c 3 = C 0 3 0 + 1) (h5 : F' c 5 = kN C + 1) (hr0 : E' (c + 10) (C 0 3 0) = row 0) (hr1 : E' (c + 11) (C 0 3 0) = row 1) (hr2 : E' (c + 12) (C 0 3 0) = row 2) (hr3 : E' (c + 13) (C 0 3 0) = row 3) (hr4 : E' (c + 14) (C 0 3 0) = row 4) (hr5 : E' (c + 5) (C 0 3 0) = row 5) (hr6 : E' (c + 6) (C 0 3 0) = row 6) (hn : E' (c + 21) (kN C) = w) (hg : E' (c + 22) (kN C) = v) (hE : ∀ b j : Int, c < b → b < c + 23 → ((b = c + 10 ∨ b = c + 11 ∨ b = c + 12 ∨ b = c + 13 ∨ b = c + 14 ∨ b = c + 5 ∨ b = c + 6) → j < C 0 3 0) → (b = c + 21 → j < kN C) → (b = c + 22 → j < kN C) → E' b j = E b j) : pmM c (adC C 6 (C 0 3 0) 3 row) (us nm (kN C) w) (us go (kN C) v) F' E' := by
  have b0 := cw_0 hW
  have b1 := cw_1 hW
  have b2 := cw_2 hW
  have b3 := cw_3 hW
  have b4 := cw_4 hW
  have kd : kN C = C 0 1 0 + C 0 2 0 + C 0 3 0 + C 0 4 0 := rfl
  have q0 : (adC C 6 (C 0 3 0) 3 row) 0 0 0 = C 0 0 0 := ad_n (by omega) (by omega)
  have q1 : (adC C 6 (C 0 3 0) 3 row) 0 1 0 = C 0 1 0 := ad_n (by omega) (by omega)
  have q2 : (adC C 6 (C 0 3 0) 3 row) 0 2 0 = C 0 2 0 := ad_n (by omega) (by omega)
  have q4 : (adC C 6 (C 0 3 0) 3 row) 0 4 0 = C 0 4 0 := ad_n (by omega) (by omega)
  have qk : (adC C 6 (C 0 3 0) 3 row) 0 3 0 = C 0 3 0 + 1 := ad_c (by omega)
  have kk : kN (adC C 6 (C 0 3 0) 3 row) = kN C + 1 := kN_ad6
  refine ⟨?_, ?_, ?_, ?_, ?_, ?_, ?_, ?_, ?_, ?_, ?_, ?_, ?_, ?_, ?_, ?_, ?_, ?_, ?_, ?_, ?_, ?_, ?_, ?_, ?_, ?_, ?_, ?_⟩
  · exact (hF _ (by omega) (by omega)).trans ((pm_0 hP).trans q0.symm)
  · exact (hF _ (by omega) (by omega)).trans ((pm_1 hP).trans q1.symm)
  · exact (hF _ (by omega) (by omega)).trans ((pm_2 hP).trans q2.symm)
  · exact h1.trans qk.symm
  · exact (hF _ (by omega) (by omega)).trans ((pm_4 hP).trans q4.symm)
  · exact h5.trans kk.symm
  · exact fun g a b => by rw [q0] at b; rw [ad_n (by omega) (by omega)]; exact (hE _ _ (by omega) (by omega) (by omega) (by omega) (by omega)).trans (pm_w hP g a b)
  · exact fun g w a b x1 x2 => by rw [q1] at b; rw [ad_n (by omega) (by omega)]; exact (hE _ _ (by omega) (by omega) (by omega) (by omega) (by omega)).trans (pm_g hP g w a b x1 x2)
  · exact fun g a b => by rw [ad_n (by omega) (by omega)]; exact (hE _ _ (by omega) (by omega) (by omega) (by omega) (by omega)).trans (pm_s0 hP g a b)
  · exact fun g a b => by rw [ad_n (by omega) (by omega)]; exact (hE _ _ (by omega) (by omega) (by omega) (by omega) (by omega)).trans (pm_s1 hP g a b)
  · exact fun g a b => by rw [ad_n (by omega) (by omega)]; exact (hE _ _ (by omega) (by omega) (by omega) (by omega) (by omega)).trans (pm_s2 hP g a b)
  · exact fun g a b => by rw [q2] at b; rw [ad_n (by omega) (by omega)]; exact (hE _ _ (by omega) (by omega) (by omega) (by omega) (by omega)).trans (pm_c0 hP g a b)
  · exact fun g a b => by rw [q2] at b; rw [ad_n (by omega) (by omega)]; exact (hE _ _ (by omega) (by omega) (by omega) (by omega) (by omega)).trans (pm_c1 hP g a b)
  · exact fun g a b => by
      rw [qk] at b
      by_cases z : g = C 0 3 0
      · rw [z, ad_r]; exact hr0
      · rw [ad_n (by omega) (by omega)]; exact (hE _ _ (by omega) (by omega) (by omega) (by omega) (by omega)).trans (pm_k0 hP g a (by omega))
  · exact fun g a b => by
      rw [qk] at b
      by_cases z : g = C 0 3 0
      · rw [z, ad_r]; exact hr1
      · rw [ad_n (by omega) (by omega)]; exact (hE _ _ (by omega) (by omega) (by omega) (by omega) (by omega)).trans (pm_k1 hP g a (by omega))
  · exact fun g a b => by
      rw [qk] at b
      by_cases z : g = C 0 3 0
      · rw [z, ad_r]; exact hr2
      · rw [ad_n (by omega) (by omega)]; exact (hE _ _ (by omega) (by omega) (by omega) (by omega) (by omega)).trans (pm_k2 hP g a (by omega))
  · exact fun g a b => by
      rw [qk] at b
      by_cases z : g = C 0 3 0
      · rw [z, ad_r]; exact hr3
      · rw [ad_n (by omega) (by omega)]; exact (hE _ _ (by omega) (by omega) (by omega) (by omega) (by omega)).trans (pm_k3 hP g a (by omega))
  · exact fun g a b => by
      rw [qk] at b
      by_cases z : g = C 0 3 0
      · rw [z, ad_r]; exact hr4
      · rw [ad_n (by omega) (by omega)]; exact (hE _ _ (by omega) (by omega) (by omega) (by omega) (by omega)).trans (pm_k4 hP g a (by omega))
  · exact fun g a b => by
      rw [qk] at b
      by_cases z : g = C 0 3 0
      · rw [z, ad_r]; exact hr5
      · rw [ad_n (by omega) (by omega)]; exact (hE _ _ (by omega) (by omega) (by omega) (by omega) (by omega)).trans (pm_k5 hP g a (by omega))
  · exact fun g a b => by
      rw [qk] at b
      by_cases z : g = C 0 3 0
      · rw [z, ad_r]; exact hr6
      · rw [ad_n (by omega) (by omega)]; exact (hE _ _ (by omega) (by omega) (by omega) (by omega) (by omega)).trans (pm_k6 hP g a (by omega))
  · exact fun g a b => by rw [q4] at b; rw [ad_n (by omega) (by omega)]; exact (hE _ _ (by omega) (by omega) (by omega) (by omega) (by omega)).trans (pm_o0 hP g a b)
  · exact fun g a b => by rw [q4] at b; rw [ad_n (by omega) (by omega)]; exact (hE _ _ (by omega) (by omega) (by omega) (by omega) (by omega)).trans (pm_o1 hP g a b)
  · exact fun g a b => by rw [q4] at b; rw [ad_n (by omega) (by omega)]; exact (hE _ _ (by omega) (by omega) (by omega) (by omega) (by omega)).trans (pm_o2 hP g a b)
  · exact fun g a b => by rw [q4] at b; rw [ad_n (by omega) (by omega)]; exact (hE _ _ (by omega) (by omega) (by omega) (by omega) (by omega)).trans (pm_o3 hP g a b)
  · exact fun g a b => by rw [q4] at b; rw [ad_n (by omega) (by omega)]; exact (hE _ _ (by omega) (by omega) (by omega) (by omega) (by omega)).trans (pm_o4 hP g a b)
  · exact fun g a b => by rw [q4] at b; rw [ad_n (by omega) (by omega)]; exact (hE _ _ (by omega) (by omega) (by omega) (by omega) (by omega)).trans (pm_o5 hP g a b)
  · exact fun q a b => by
      rw [kk] at b
      by_cases z : q = kN C
      · rw [z, us_e]; exact hn
      · rw [us_n z]; exact (hE _ _ (by omega) (by omega) (by omega) (by omega) (by omega)).trans (pm_n hP q a (by omega))
  · exact fun q a b => by
      rw [kk] at b
      by_cases z : q = kN C
      · rw [z, us_e]; exact hg
      · rw [us_n z]; exact (hE _ _ (by omega) (by omega) (by omega) (by omega) (by omega)).trans (pm_q hP q a (by omega))
theorem pmM_ad4 (hP : pmM c C nm go F E) (hW : ctW C) (g0 : 0 ≤ g) (g1 : g < 6) (hF : ∀ j : Int, F' c j = F c j) (hr0 : E' (c + 4) g = row 0) (hr1 : E' (c + 2) g = row 1) (hr2 : E' (c + 3) g = row 2) (hE : ∀ b j : Int, c < b → b < c + 23 → ((b = c + 2 ∨ b = c + 3 ∨ b = c + 4) → j ≠ g) → E' b j = E b j) : pmM c (adC C 4 g 9 row) nm go F' E' := by
  have q0 : (adC C 4 g 9 row) 0 0 0 = C 0 0 0 := ad_n (by omega) (by omega)
  have q1 : (adC C 4 g 9 row) 0 1 0 = C 0 1 0 := ad_n (by omega) (by omega)
  have q2 : (adC C 4 g 9 row) 0 2 0 = C 0 2 0 := ad_n (by omega) (by omega)
  have q3 : (adC C 4 g 9 row) 0 3 0 = C 0 3 0 := ad_n (by omega) (by omega)
  have q4 : (adC C 4 g 9 row) 0 4 0 = C 0 4 0 := ad_n (by omega) (by omega)
  have kk : kN (adC C 4 g 9 row) = kN C := kN_ad4
  refine ⟨?_, ?_, ?_, ?_, ?_, ?_, ?_, ?_, ?_, ?_, ?_, ?_, ?_, ?_, ?_, ?_, ?_, ?_, ?_, ?_, ?_, ?_, ?_, ?_, ?_, ?_, ?_, ?_⟩
  · exact (hF _).trans ((pm_0 hP).trans q0.symm)
  · exact (hF _).trans ((pm_1 hP).trans q1.symm)
  · exact (hF _).trans ((pm_2 hP).trans q2.symm)
  · exact (hF _).trans ((pm_3 hP).trans q3.symm)
  · exact (hF _).trans ((pm_4 hP).trans q4.symm)
  · exact (hF _).trans ((pm_5 hP).trans kk.symm)
  · exact fun g a b => by rw [q0] at b; rw [ad_n (by omega) (by omega)]; exact (hE _ _ (by omega) (by omega) (by omega)).trans (pm_w hP g a b)
  · exact fun g w a b x1 x2 => by rw [q1] at b; rw [ad_n (by omega) (by omega)]; exact (hE _ _ (by omega) (by omega) (by omega)).trans (pm_g hP g w a b x1 x2)
  · exact fun x a b => by
      by_cases z : x = g
      · rw [z, ad_r]; exact hr0
      · rw [ad_n (by omega) (by omega)]; exact (hE _ _ (by omega) (by omega) (by omega)).trans (pm_s0 hP x a b)
  · exact fun x a b => by
      by_cases z : x = g
      · rw [z, ad_r]; exact hr1
      · rw [ad_n (by omega) (by omega)]; exact (hE _ _ (by omega) (by omega) (by omega)).trans (pm_s1 hP x a b)
  · exact fun x a b => by
      by_cases z : x = g
      · rw [z, ad_r]; exact hr2
      · rw [ad_n (by omega) (by omega)]; exact (hE _ _ (by omega) (by omega) (by omega)).trans (pm_s2 hP x a b)
  · exact fun g a b => by rw [q2] at b; rw [ad_n (by omega) (by omega)]; exact (hE _ _ (by omega) (by omega) (by omega)).trans (pm_c0 hP g a b)
  · exact fun g a b => by rw [q2] at b; rw [ad_n (by omega) (by omega)]; exact (hE _ _ (by omega) (by omega) (by omega)).trans (pm_c1 hP g a b)
  · exact fun g a b => by rw [q3] at b; rw [ad_n (by omega) (by omega)]; exact (hE _ _ (by omega) (by omega) (by omega)).trans (pm_k0 hP g a b)
  · exact fun g a b => by rw [q3] at b; rw [ad_n (by omega) (by omega)]; exact (hE _ _ (by omega) (by omega) (by omega)).trans (pm_k1 hP g a b)
  · exact fun g a b => by rw [q3] at b; rw [ad_n (by omega) (by omega)]; exact (hE _ _ (by omega) (by omega) (by omega)).trans (pm_k2 hP g a b)
  · exact fun g a b => by rw [q3] at b; rw [ad_n (by omega) (by omega)]; exact (hE _ _ (by omega) (by omega) (by omega)).trans (pm_k3 hP g a b)
  · exact fun g a b => by rw [q3] at b; rw [ad_n (by omega) (by omega)]; exact (hE _ _ (by omega) (by omega) (by omega)).trans (pm_k4 hP g a b)
  · exact fun g a b => by rw [q3] at b; rw [ad_n (by omega) (by omega)]; exact (hE _ _ (by omega) (by omega) (by omega)).trans (pm_k5 hP g a b)
  · exact fun g a b => by rw [q3] at b; rw [ad_n (by omega) (by omega)]; exact (hE _ _ (by omega) (by omega) (by omega)).trans (pm_k6 hP g a b)
  · exact fun g a b => by rw [q4] at b; rw [ad_n (by omega) (by omega)]; exact (hE _ _ (by omega) (by omega) (by omega)).trans (pm_o0 hP g a b)
  · exact fun g a b => by rw [q4] at b; rw [ad_n (by omega) (by omega)]; exact (hE _ _ (by omega) (by omega) (by omega)).trans (pm_o1 hP g a b)
  · exact fun g a b => by rw [q4] at b; rw [ad_n (by omega) (by omega)]; exact (hE _ _ (by omega) (by omega) (by omega)).trans (pm_o2 hP g a b)
  · exact fun g a b => by rw [q4] at b; rw [ad_n (by omega) (by omega)]; exact (hE _ _ (by omega) (by omega) (by omega)).trans (pm_o3 hP g a b)
  · exact fun g a b => by rw [q4] at b; rw [ad_n (by omega) (by omega)]; exact (hE _ _ (by omega) (by omega) (by omega)).trans (pm_o4 hP g a b)
  · exact fun g a b => by rw [q4] at b; rw [ad_n (by omega) (by omega)]; exact (hE _ _ (by omega) (by omega) (by omega)).trans (pm_o5 hP g a b)
  · exact fun q a b => by rw [kk] at b; exact (hE _ _ (by omega) (by omega) (by omega)).trans (pm_n hP q a b)
  · exact fun q a b => by rw [kk] at b; exact (hE _ _ (by omega) (by omega) (by omega)).trans (pm_q hP q a b)
theorem pmM_rg (hP : pmM c C nm go F E) (hF : ∀ j : Int, j ≠ 0 → F' c j = F c j) (h0 : F' c 0 = cn) (hr : ∀ g : Int, 0 ≤ g → g < cn → E' (c + 1) g = row g) (hE : ∀ b j : Int, c < b → b < c + 23 → b ≠ c + 1 → E' b j = E b j) : pmM c (rgC C cn row) nm go F' E' := by
  have q1 : (rgC C cn row) 0 1 0 = C 0 1 0 := rgC_n (by omega) (by omega)
  have q2 : (rgC C cn row) 0 2 0 = C 0 2 0 := rgC_n (by omega) (by omega)
  have q3 : (rgC C cn row) 0 3 0 = C 0 3 0 := rgC_n (by omega) (by omega)
  have q4 : (rgC C cn row) 0 4 0 = C 0 4 0 := rgC_n (by omega) (by omega)
  have kk : kN (rgC C cn row) = kN C := by unfold kN; rw [q1, q2, q3, q4]
  refine ⟨?_, ?_, ?_, ?_, ?_, ?_, ?_, ?_, ?_, ?_, ?_, ?_, ?_, ?_, ?_, ?_, ?_, ?_, ?_, ?_, ?_, ?_, ?_, ?_, ?_, ?_, ?_, ?_⟩
  · exact h0.trans rgC_0.symm
  · exact (hF _ (by omega)).trans ((pm_1 hP).trans q1.symm)
  · exact (hF _ (by omega)).trans ((pm_2 hP).trans q2.symm)
  · exact (hF _ (by omega)).trans ((pm_3 hP).trans q3.symm)
  · exact (hF _ (by omega)).trans ((pm_4 hP).trans q4.symm)
  · exact (hF _ (by omega)).trans ((pm_5 hP).trans kk.symm)
  · exact fun g a b => by rw [rgC_0] at b; rw [rgC_1]; exact hr g a b
  · exact fun g w a b x1 x2 => by rw [q1] at b; rw [rgC_n (by omega) (by omega)]; exact (hE _ _ (by omega) (by omega) (by omega)).trans (pm_g hP g w a b x1 x2)
  · exact fun g a b => by rw [rgC_n (by omega) (by omega)]; exact (hE _ _ (by omega) (by omega) (by omega)).trans (pm_s0 hP g a b)
  · exact fun g a b => by rw [rgC_n (by omega) (by omega)]; exact (hE _ _ (by omega) (by omega) (by omega)).trans (pm_s1 hP g a b)
  · exact fun g a b => by rw [rgC_n (by omega) (by omega)]; exact (hE _ _ (by omega) (by omega) (by omega)).trans (pm_s2 hP g a b)
  · exact fun g a b => by rw [q2] at b; rw [rgC_n (by omega) (by omega)]; exact (hE _ _ (by omega) (by omega) (by omega)).trans (pm_c0 hP g a b)
  · exact fun g a b => by rw [q2] at b; rw [rgC_n (by omega) (by omega)]; exact (hE _ _ (by omega) (by omega) (by omega)).trans (pm_c1 hP g a b)
  · exact fun g a b => by rw [q3] at b; rw [rgC_n (by omega) (by omega)]; exact (hE _ _ (by omega) (by omega) (by omega)).trans (pm_k0 hP g a b)
  · exact fun g a b => by rw [q3] at b; rw [rgC_n (by omega) (by omega)]; exact (hE _ _ (by omega) (by omega) (by omega)).trans (pm_k1 hP g a b)
  · exact fun g a b => by rw [q3] at b; rw [rgC_n (by omega) (by omega)]; exact (hE _ _ (by omega) (by omega) (by omega)).trans (pm_k2 hP g a b)
  · exact fun g a b => by rw [q3] at b; rw [rgC_n (by omega) (by omega)]; exact (hE _ _ (by omega) (by omega) (by omega)).trans (pm_k3 hP g a b)
  · exact fun g a b => by rw [q3] at b; rw [rgC_n (by omega) (by omega)]; exact (hE _ _ (by omega) (by omega) (by omega)).trans (pm_k4 hP g a b)
  · exact fun g a b => by rw [q3] at b; rw [rgC_n (by omega) (by omega)]; exact (hE _ _ (by omega) (by omega) (by omega)).trans (pm_k5 hP g a b)
  · exact fun g a b => by rw [q3] at b; rw [rgC_n (by omega) (by omega)]; exact (hE _ _ (by omega) (by omega) (by omega)).trans (pm_k6 hP g a b)
  · exact fun g a b => by rw [q4] at b; rw [rgC_n (by omega) (by omega)]; exact (hE _ _ (by omega) (by omega) (by omega)).trans (pm_o0 hP g a b)
  · exact fun g a b => by rw [q4] at b; rw [rgC_n (by omega) (by omega)]; exact (hE _ _ (by omega) (by omega) (by omega)).trans (pm_o1 hP g a b)
  · exact fun g a b => by rw [q4] at b; rw [rgC_n (by omega) (by omega)]; exact (hE _ _ (by omega) (by omega) (by omega)).trans (pm_o2 hP g a b)
  · exact fun g a b => by rw [q4] at b; rw [rgC_n (by omega) (by omega)]; exact (hE _ _ (by omega) (by omega) (by omega)).trans (pm_o3 hP g a b)
  · exact fun g a b => by rw [q4] at b; rw [rgC_n (by omega) (by omega)]; exact (hE _ _ (by omega) (by omega) (by omega)).trans (pm_o4 hP g a b)
  · exact fun g a b => by rw [q4] at b; rw [rgC_n (by omega) (by omega)]; exact (hE _ _ (by omega) (by omega) (by omega)).trans (pm_o5 hP g a b)
  · exact fun q a b => by rw [kk] at b; exact (hE _ _ (by omega) (by omega) (by omega)).trans (pm_n hP q a b)
  · exact fun q a b => by rw [kk] at b; exact (hE _ _ (by omega) (by omega) (by omega)).trans (pm_q hP q a b)
end ROWM

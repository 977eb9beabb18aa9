/-! ===== a day's bounds hold on ===== -/
theorem dWf_upd {C : Cy} {D D' : Int → Int → Int} {l : Int} (h : dWf C D) (h1 : ∀ w l' : Int, 0 ≤ w → w < 10 → l' ≠ l → D' w l' = D w l') (h10 : ∀ j : Int, D' 10 j = D 10 j) (hl : ldW C D' l) (hc : D' 6 l = -2 ∨ ∀ l' : Int, 0 ≤ l' → l' < D 10 1 → l' ≠ l → D 6 l' ≠ D' 6 l) (hg : D' 3 l = 4 → ∀ l' : Int, 0 ≤ l' → l' < D 10 1 → l' ≠ l → D 3 l' = 4 → gah C D l' ≠ gah C D' l) : dWf C D' := by
  obtain ⟨a1, a2, a3, a4⟩ := h
  have e : ∀ l' : Int, l' ≠ l → gah C D' l' = gah C D l' := fun l' z => gah_eq (h1 _ _ (by omega) (by omega) z) (h1 _ _ (by omega) (by omega) z)
  refine ⟨by rw [h10]; exact a1, by rw [h10]; exact a2, fun x x0 x1 => ?_, fun x y x0 x1 y0 y1 hxy => ?_⟩
  · rw [h10] at x1
    by_cases z : x = l
    · subst z; exact hl
    · have := a3 x x0 x1
      unfold ldW at this ⊢
      rw [h1 0 x (by omega) (by omega) z, h1 1 x (by omega) (by omega) z, h1 2 x (by omega) (by omega) z, h1 3 x (by omega) (by omega) z, h1 4 x (by omega) (by omega) z, h1 6 x (by omega) (by omega) z, h1 8 x (by omega) (by omega) z]
      exact this
  · rw [h10] at x1 y1
    by_cases z : x = l
    · subst z
      have hy : y ≠ x := fun w => hxy w.symm
      rw [h1 6 y (by omega) (by omega) hy, h1 3 y (by omega) (by omega) hy, e y hy]
      refine ⟨fun q => ?_, fun q1 q2 => ?_⟩
      · rcases hc with hc | hc
        · exact hc
        · exact absurd q.symm (hc y y0 y1 hy)
      · exact fun w => hg q1 y y0 y1 hy q2 w.symm
    · by_cases z2 : y = l
      · subst z2
        rw [h1 6 x (by omega) (by omega) z, h1 3 x (by omega) (by omega) z, e x z]
        refine ⟨fun q => ?_, fun q1 q2 => hg q2 x x0 x1 z q1⟩
        rcases hc with hc | hc
        · omega
        · exact absurd q (hc x x0 x1 z)
      · rw [h1 6 x (by omega) (by omega) z, h1 3 x (by omega) (by omega) z, e x z, h1 6 y (by omega) (by omega) z2, h1 3 y (by omega) (by omega) z2, e y z2]
        exact a4 x y x0 x1 y0 y1 hxy
theorem ldW_u {C : Cy} {D : Int → Int → Int} (h : dWf C D) {l l' : Int} (h0 : 0 ≤ l) (h1 : l < D 10 1) (h2 : 0 ≤ l') (h3 : l' < D 10 1) (hn : l ≠ l') : (D 6 l = D 6 l' → D 6 l = -2) ∧ (D 3 l = 4 → D 3 l' = 4 → gah C D l ≠ gah C D l') := h.2.2.2 l l' h0 h1 h2 h3 hn
/-- only rows 1 .. 9 of one load differ -/
def only (D D' : Int → Int → Int) (l : Int) : Prop := (∀ w l' : Int, (l' ≠ l ∨ w ≤ 0 ∨ 10 ≤ w ∨ w = 5) → D' w l' = D w l')
theorem arD_only {C : Cy} {D : Int → Int → Int} {l : Int} : only D (arD C D l) l := by
  intro w l' z
  unfold arD
  split <;> rw [up_ne (by omega), up_ne (by omega)]
theorem only.tr {D D' D'' : Int → Int → Int} {l : Int} (h1 : only D D' l) (h2 : only D' D'' l) : only D D'' l := fun w l' z => (h2 w l' z).trans (h1 w l' z)
theorem only.up {D : Int → Int → Int} {l w v : Int} (h : 0 < w) (h2 : w < 10) (h5 : w ≠ 5) : only D (up D w l v) l := fun w l' z => up_ne (by omega)
/-- a load has come: its own rows -/
theorem arD_row {C : Cy} {D : Int → Int → Int} {l : Int} : (gah C D l = -1 ∧ arD C D l 3 l = 5 ∨ gah C D l ≠ -1 ∧ arD C D l 3 l = 3) ∧ (∀ w : Int, w ≠ 3 → w ≠ 7 → w ≠ 9 → arD C D l w l = D w l) := by
  unfold arD
  split
  · next z => exact ⟨Or.inl ⟨z, by rw [up_ne (by omega), up_eq]⟩, fun w a b c => by rw [up_ne (by omega), up_ne (by omega)]⟩
  · next z => exact ⟨Or.inr ⟨z, by rw [up_ne (by omega), up_eq]⟩, fun w a b c => by rw [up_ne (by omega), up_ne (by omega)]⟩
theorem ldW_arD {C : Cy} (hW : ctW C) {D : Int → Int → Int} {l : Int} (h0 : 0 ≤ D 0 l ∧ D 0 l < C 0 4 0) (hf : bO C (D 0 l) 0 = 1) (h1 : 0 ≤ D 1 l ∧ D 1 l < C 0 0 0) (h2 : 0 ≤ D 2 l ∧ D 2 l < 12) (h4 : D 4 l = 0) (h6 : D 6 l = -2) (h8 : 0 ≤ D 8 l ∧ D 8 l ≤ bO C (D 0 l) 5) : ldW C (arD C D l) l := by
  obtain ⟨r1, r2⟩ := arD_row (C := C) (D := D) (l := l)
  unfold ldW
  rw [r2 0 (by omega) (by omega) (by omega), r2 1 (by omega) (by omega) (by omega), r2 2 (by omega) (by omega) (by omega), r2 4 (by omega) (by omega) (by omega), r2 6 (by omega) (by omega) (by omega), r2 8 (by omega) (by omega) (by omega)]
  have hg : gah C D l ≠ -1 → D 8 l < bO C (D 0 l) 5 := fun z => by
    apply Decidable.byContradiction
    intro w
    exact z (if_neg w)
  refine ⟨h0, hf, h1, h2, by omega, by omega, by omega, h8, fun z => hg (by omega)⟩
theorem dWf_only {C : Cy} {D D' : Int → Int → Int} {l : Int} (h : dWf C D) (ho : only D D' l) (hl : ldW C D' l) (hc : D' 6 l = -2 ∨ ∀ l' : Int, 0 ≤ l' → l' < D 10 1 → l' ≠ l → D 6 l' ≠ D' 6 l) (hg : D' 3 l = 4 → ∀ l' : Int, 0 ≤ l' → l' < D 10 1 → l' ≠ l → D 3 l' = 4 → gah C D l' ≠ gah C D' l) : dWf C D' := dWf_upd h (fun w l' _ _ z => ho w l' (Or.inl z)) (fun j => ho 10 j (by omega)) hl hc hg
theorem mvD_ok {C : Cy} (hW : ctW C) {D : Int → Int → Int} (h : dWf C D) {l : Int} (h0 : 0 ≤ l) (h1 : l < D 10 1) : dWf C (mvD C D l) ∧ only D (mvD C D l) l := by
  have hl := h.2.2.1 l h0 h1
  have hl' := hl
  obtain ⟨a0, af, a1, a2, a3, a4, a6, a8, a9⟩ := hl'
  unfold mvD
  split
  · exact ⟨h, fun _ _ _ => rfl⟩
  · split
    · have ho : only D (up D 4 l (D 4 l - 1)) l := only.up (by omega) (by omega) (by omega)
      refine ⟨dWf_only h ho ?_ ?_ ?_, ho⟩
      · unfold ldW
        simp (disch := omega) only [up_ne, up_eq]
        refine ⟨a0, af, a1, a2, a3, by omega, a6, a8, a9⟩
      · rw [up_ne (by omega)]
        rcases a6 with a6 | a6
        · exact Or.inr fun l' x y z w => by have := (ldW_u h x y h0 h1 z).1 w; omega
        · exact Or.inl a6.2
      · rw [up_ne (by omega), gah_eq (D := D) (D' := up D 4 l (D 4 l - 1)) (up_ne (by omega)) (up_ne (by omega))]
        exact fun q l' x y z w => (ldW_u h x y h0 h1 z).2 w q
    · have h4 : D 4 l = 1 := by omega
      split
      · have hp := plah_b hW hl
        rw [← plah_eq (D := D) (D' := up D 4 l (D 4 l - 1)) (C := C) (l := l) (up_ne (by omega)) (up_ne (by omega))] at hp
        unfold lcD
        generalize plah C (up D 4 l (D 4 l - 1)) l = pp at *
        have ho : only D (up (up (up D 4 l (D 4 l - 1)) 6 l (-2)) 2 l pp) l := ((only.up (by omega) (by omega) (by omega)).tr (only.up (by omega) (by omega) (by omega))).tr (only.up (by omega) (by omega) (by omega))
        have r := arD_row (C := C) (D := up (up (up D 4 l (D 4 l - 1)) 6 l (-2)) 2 l pp) (l := l)
        refine ⟨dWf_only h (ho.tr arD_only) (ldW_arD hW ?_ ?_ ?_ ?_ ?_ ?_ ?_) (Or.inl ?_) (fun q => ?_), ho.tr arD_only⟩
        · rw [ho _ _ (by omega)]; exact a0
        · rw [ho 0 _ (by omega)]; exact af
        · simp (disch := omega) only [up_ne]; exact a1
        · rw [up_eq]; exact hp
        · simp (disch := omega) only [up_ne, up_eq]; omega
        · simp (disch := omega) only [up_ne, up_eq]
        · simp (disch := omega) only [up_ne]; exact a8
        · rw [r.2 6 (by omega) (by omega) (by omega)]
          simp (disch := omega) only [up_ne, up_eq]
        · omega
      · next hs2 =>
        have hs : D 3 l = 4 := by omega
        have g0 := (gah_b hW hl).resolve_left (by omega)
        have gr := cw_g0 hW _ g0.1 g0.2.1
        have eg : gah C (up D 4 l (D 4 l - 1)) l = gah C D l := gah_eq (up_ne (by omega)) (up_ne (by omega))
        have ho : only D (lgD0 C (up D 4 l (D 4 l - 1)) l) l := (only.up (by omega) (by omega) (by omega)).tr (((only.up (by omega) (by omega) (by omega)).tr (only.up (by omega) (by omega) (by omega))).tr (only.up (by omega) (by omega) (by omega)))
        have e1 : lgD0 C (up D 4 l (D 4 l - 1)) l 1 l = if D 1 l = C 2 (gah C D l) 0 then C 2 (gah C D l) 0 + 1 else C 2 (gah C D l) 0 := by
          unfold lgD0
          rw [eg]
          simp (disch := omega) only [up_ne, up_eq]
        have e2 : lgD0 C (up D 4 l (D 4 l - 1)) l 2 l = D 2 l := by unfold lgD0; simp (disch := omega) only [up_ne]
        have e3 : lgD0 C (up D 4 l (D 4 l - 1)) l 3 l = 1 := by unfold lgD0; simp (disch := omega) only [up_ne, up_eq]
        have e4 : lgD0 C (up D 4 l (D 4 l - 1)) l 4 l = 0 := by unfold lgD0; simp (disch := omega) only [up_ne, up_eq]; omega
        have e6 : lgD0 C (up D 4 l (D 4 l - 1)) l 6 l = -2 := by unfold lgD0; simp (disch := omega) only [up_ne]; omega
        have e8 : lgD0 C (up D 4 l (D 4 l - 1)) l 8 l = D 8 l + 1 := by unfold lgD0; simp (disch := omega) only [up_ne, up_eq]
        have e0 : lgD0 C (up D 4 l (D 4 l - 1)) l 0 l = D 0 l := ho _ _ (by omega)
        have b1 : 0 ≤ lgD0 C (up D 4 l (D 4 l - 1)) l 1 l ∧ lgD0 C (up D 4 l (D 4 l - 1)) l 1 l < C 0 0 0 := by rw [e1]; split <;> omega
        unfold lgD
        generalize lgD0 C (up D 4 l (D 4 l - 1)) l = D3 at *
        split
        · have r := arD_row (C := C) (D := D3) (l := l)
          refine ⟨dWf_only h (ho.tr arD_only) (ldW_arD hW (by rw [e0]; exact a0) (by rw [e0]; exact af) b1 (by rw [e2]; exact a2) e4 e6 (by rw [e8, e0]; omega)) (Or.inl ?_) (fun q => ?_), ho.tr arD_only⟩
          · rw [r.2 6 (by omega) (by omega) (by omega)]; exact e6
          · omega
        · refine ⟨dWf_only h ho ?_ (Or.inl e6) (fun q => by omega), ho⟩
          unfold ldW
          rw [e0, e2, e3, e4, e6, e8]
          exact ⟨a0, af, b1, a2, by omega, by omega, by omega, by omega, fun z => by omega⟩
theorem fm_spec (C : Cy) (D : Int → Int → Int) (g : Int) : ∀ n : Nat, (fmF C D g n = -1 ∧ ∀ l : Int, 0 ≤ l → l < n → ¬ (D 3 l = 3 ∧ gah C D l = g)) ∨ (0 ≤ fmF C D g n ∧ fmF C D g n < n ∧ D 3 (fmF C D g n) = 3 ∧ gah C D (fmF C D g n) = g) := by
  intro n
  induction n with
  | zero => exact Or.inl ⟨rfl, fun l a b => by omega⟩
  | succ n ih =>
    unfold fmF
    split
    · next z => exact Or.inr ⟨by omega, by omega, z.1.1, z.1.2⟩
    · next z =>
      rcases ih with ⟨i1, i2⟩ | ⟨i1, i2, i3, i4⟩
      · refine Or.inl ⟨i1, fun l a b => ?_⟩
        by_cases w : l = n
        · subst w; exact fun y => z ⟨y, Or.inl i1⟩
        · exact i2 l a (by omega)
      · exact Or.inr ⟨i1, by omega, i3, i4⟩
theorem bz_spec (C : Cy) (D : Int → Int → Int) (g : Int) : ∀ n : Nat, (bzF C D g n = -2 ∧ ∀ l : Int, 0 ≤ l → l < n → ¬ (D 3 l = 4 ∧ gah C D l = g)) ∨ (0 ≤ bzF C D g n ∧ bzF C D g n < n ∧ D 3 (bzF C D g n) = 4 ∧ gah C D (bzF C D g n) = g) := by
  intro n
  induction n with
  | zero => exact Or.inl ⟨rfl, fun l a b => by omega⟩
  | succ n ih =>
    unfold bzF
    rcases ih with ⟨i1, i2⟩ | ⟨i1, i2, i3, i4⟩
    · rw [if_neg (by omega)]
      split
      · next z => exact Or.inr ⟨by omega, by omega, z.1, z.2⟩
      · next z =>
        refine Or.inl ⟨rfl, fun l a b => ?_⟩
        by_cases w : l = n
        · subst w; exact z
        · exact i2 l a (by omega)
    · rw [if_pos (by omega)]
      exact Or.inr ⟨i1, by omega, i3, i4⟩
theorem on_spec (D : Int → Int → Int) (c : Int) : ∀ n : Nat, (onF D c n = -2 ∧ ∀ l : Int, 0 ≤ l → l < n → D 6 l ≠ c) ∨ (0 ≤ onF D c n ∧ onF D c n < n ∧ D 6 (onF D c n) = c) := by
  intro n
  induction n with
  | zero => exact Or.inl ⟨rfl, fun l a b => by omega⟩
  | succ n ih =>
    unfold onF
    rcases ih with ⟨i1, i2⟩ | ⟨i1, i2, i3⟩
    · rw [if_neg (by omega)]
      split
      · next z => exact Or.inr ⟨by omega, by omega, z⟩
      · next z =>
        refine Or.inl ⟨rfl, fun l a b => ?_⟩
        by_cases w : l = n
        · subst w; exact z
        · exact i2 l a (by omega)
    · rw [if_pos (by omega)]
      exact Or.inr ⟨i1, by omega, i3⟩
theorem ct_spec (C : Cy) (D : Int → Int → Int) (l : Int) : ∀ n : Nat, ctF C D l n = -1 ∨ (0 ≤ ctF C D l n ∧ ctF C D l n < n ∧ onF D (ctF C D l n) (D 10 1).toNat = -2 ∧ C 3 (ctF C D l n) 0 = D 1 l ∧ thO C (D 0 l) 3 ≤ C 3 (ctF C D l n) 1) := by
  intro n
  induction n with
  | zero => exact Or.inl rfl
  | succ n ih =>
    unfold ctF
    rcases ih with i1 | ⟨i1, i2, i3⟩
    · rw [if_neg (by omega)]
      split
      · next z => exact Or.inr ⟨by omega, by omega, z⟩
      · exact Or.inl rfl
    · rw [if_pos (by omega)]
      exact Or.inr ⟨i1, by omega, i3⟩
theorem thO_3 {C : Cy} (hW : ctW C) {o : Int} (h0 : 0 ≤ o) (h1 : o < C 0 4 0) : 1 ≤ thO C o 3 := by
  have k := cw_o0 hW o h0 h1
  have k3 := cw_k hW _ 3 k.1 k.2 (by omega) (by omega)
  have kp := pn_b hW k.1 k.2
  have u3 := upw_b k3.1 k3.2 kp
  have e1 : wh C (C 5 o 0) 3 = C 6 (C 5 o 0) 3 := rfl
  have e2 : pt C (C 5 o 0) 3 = upw (C 6 (C 5 o 0) 3) (pn C (C 5 o 0)) := rfl
  unfold thO
  split
  · rw [e2]; omega
  · rw [e1]; omega
theorem hrs_1 {C : Cy} (hW : ctW C) {th : Int → Int} (hth : thW th) (h3 : 1 ≤ th 3) {g : Int} (h0 : 0 ≤ g) (h1 : g < C 0 1 0) : 1 ≤ hrsP C th g := by
  have a := tw_3 hth
  have b := cw_g4 hW g h0 h1
  obtain ⟨p1, p2, p3, p4⟩ := tdivB a.1 a.2 b.1 b.2
  unfold hrsP
  rcases Int.lt_or_le 0 (Int.tdiv (th 3 + C 2 g 4 - 1) (C 2 g 4)) with z | z
  · omega
  · have : Int.tdiv (th 3 + C 2 g 4 - 1) (C 2 g 4) = 0 := by omega
    rw [this] at p4
    omega
theorem opD_ok {C : Cy} (hW : ctW C) {D : Int → Int → Int} (h : dWf C D) {g K : Int} (hK : dK D K) (h0 : 0 ≤ g) (h1 : g < C 0 1 0) : dWf C (opD C D g) ∧ dK (opD C D g) (K + 107) ∧ (∀ j : Int, opD C D g 10 j = D 10 j) ∧ (∀ j : Int, opD C D g 0 j = D 0 j) := by
  have b1 := cw_1 hW
  have hn := h.2.1
  unfold opD
  split
  · exact ⟨h, ⟨fun q x y => by have := hK.1 q x y; omega, fun q x y => by have := hK.2 q x y; omega⟩, fun _ => rfl, fun _ => rfl⟩
  · next hz =>
    have hbz := (bz_spec C D g (D 10 1).toNat).resolve_right (fun w => hz (Or.inl (by omega)))
    have hfm := (fm_spec C D g (D 10 1).toNat).resolve_left (fun w => hz (Or.inr w.1))
    generalize fmF C D g (D 10 1).toNat = l at *
    obtain ⟨l0, l1, l2, l3⟩ := hfm
    have hl := h.2.2.1 l l0 (by omega)
    obtain ⟨a0, af, a1, a2, a3, a4, a6, a8, a9⟩ := hl
    have hth := thO_W hW a0.1 a0.2
    have hb := hrsB hW hth h0 h1
    have hb1 := hrs_1 hW hth (thO_3 hW a0.1 a0.2) h0 h1
    have g5 := cw_g5 hW g h0 h1
    refine ⟨dWf_upd h (l := l) (fun w l' x y z => ?_) (fun j => ?_) ?_ (Or.inl ?_) (fun _ l' x y z w => ?_), ⟨fun q x y => ?_, fun q x y => ?_⟩, fun j => ?_, fun j => ?_⟩
    · simp (disch := omega) only [up_ne]
    · simp (disch := omega) only [up_ne]
    · unfold ldW
      simp (disch := omega) only [up_ne, up_eq]
      exact ⟨a0, af, a1, a2, by omega, by simp; omega, by omega, a8, fun _ => a9 (by omega)⟩
    · simp (disch := omega) only [up_ne]; omega
    · rw [gah_eq (D := D) (l := l) (by simp (disch := omega) only [up_ne]) (by simp (disch := omega) only [up_ne]), l3]
      exact fun e => hbz.2 l' x (by omega) ⟨w, e⟩
    · have kq := hK.1 q x y
      by_cases z : q = g
      · subst z
        simp (disch := omega) only [up_ne, up_eq]
        omega
      · simp (disch := omega) only [up_ne]
        omega
    · have : D 10 1 = up (up (up (up D 3 l 4) 4 l (hrsP C (thO C (D 0 l)) g)) 11 g (D 11 g + C 2 g 5)) 12 g (D 12 g + hrsP C (thO C (D 0 l)) g * C 2 g 4) 10 1 := by simp (disch := omega) only [up_ne]
      rw [← this] at y
      have kq := hK.2 q x y
      simp (disch := omega) only [up_ne]
      omega
    · simp (disch := omega) only [up_ne]
    · simp (disch := omega) only [up_ne]
theorem bgD_ok {C : Cy} {D : Int → Int → Int} (h : dWf C D) {l : Int} (h0 : 0 ≤ l) (h1 : l < D 10 1) : dWf C (bgD C D l) ∧ only D (bgD C D l) l := by
  have hl := h.2.2.1 l h0 h1
  obtain ⟨a0, af, a1, a2, a3, a4, a6, a8, a9⟩ := hl
  unfold bgD
  split
  · have ho : only D (up D 3 l 1) l := only.up (by omega) (by omega) (by omega)
    refine ⟨dWf_only h ho ?_ (Or.inl ?_) (fun q => ?_), ho⟩
    · unfold ldW
      simp (disch := omega) only [up_ne, up_eq]
      exact ⟨a0, af, a1, a2, by omega, by omega, by omega, a8, fun z => by omega⟩
    · rw [up_ne (by omega)]; omega
    · rw [up_eq] at q; omega
  · exact ⟨h, fun _ _ _ => rfl⟩
theorem drD_ok {C : Cy} (hW : ctW C) {D : Int → Int → Int} (h : dWf C D) {l : Int} (h0 : 0 ≤ l) (h1 : l < D 10 1) : dWf C (drD C D l) ∧ only D (drD C D l) l := by
  have hl := h.2.2.1 l h0 h1
  have hp := plah_b hW hl
  have b2 := cw_2 hW
  obtain ⟨a0, af, a1, a2, a3, a4, a6, a8, a9⟩ := hl
  unfold drD
  split
  · exact ⟨h, fun _ _ _ => rfl⟩
  · split
    · have r := arD_row (C := C) (D := D) (l := l)
      refine ⟨dWf_only h arD_only (ldW_arD hW a0 af a1 a2 (by omega) (by omega) a8) (Or.inl ?_) (fun q => by omega), arD_only⟩
      rw [r.2 6 (by omega) (by omega) (by omega)]; omega
    · next hne =>
      have rz := rnd_z a2.1 a2.2 hp.1 hp.2
      have rb := rnd_b a2.1 a2.2 hp.1 hp.2
      split
      · exact ⟨h, fun _ _ _ => rfl⟩
      · next hc =>
        have cs := (ct_spec C D l (C 0 2 0).toNat).resolve_left hc
        generalize ctF C D l (C 0 2 0).toNat = c at *
        have os := (on_spec D c (D 10 1).toNat).resolve_right (fun w => by omega)
        have ho : only D (up (up (up D 6 l c) 3 l 2) 4 l (rnd (D 2 l) (plah C D l))) l := ((only.up (by omega) (by omega) (by omega)).tr (only.up (by omega) (by omega) (by omega))).tr (only.up (by omega) (by omega) (by omega))
        refine ⟨dWf_only h ho ?_ (Or.inr fun l' x y z => ?_) (fun q => ?_), ho⟩
        · unfold ldW
          simp (disch := omega) only [up_ne, up_eq]
          exact ⟨a0, af, a1, a2, by omega, by simp; omega, by simp; omega, a8, fun z => by omega⟩
        · simp (disch := omega) only [up_ne, up_eq]
          exact os.2 l' x (by omega)
        · simp (disch := omega) only [up_ne, up_eq] at q
          omega
theorem soD_ok {C : Cy} (hW : ctW C) {D : Int → Int → Int} (h : dWf C D) {l : Int} (h0 : 0 ≤ l) (h1 : l < D 10 1) : dWf C (soD C D l) ∧ only D (soD C D l) l := by
  obtain ⟨p1, p2⟩ := bgD_ok h h0 h1
  obtain ⟨q1, q2⟩ := drD_ok hW p1 h0 (by rw [p2 10 1 (by omega)]; exact h1)
  exact ⟨q1, p2.tr q2⟩
theorem wtD_ok {C : Cy} {D : Int → Int → Int} (h : dWf C D) {l K : Int} (hK : dK D K) (h0 : 0 ≤ l) (h1 : l < D 10 1) : dWf C (wtD D l) ∧ dK (wtD D l) (K + 1) ∧ (∀ w j : Int, w ≠ 5 → wtD D l w j = D w j) := by
  have hl := h.2.2.1 l h0 h1
  unfold wtD
  split
  · have e : ∀ w j : Int, w ≠ 5 → up D 5 l (D 5 l + 1) w j = D w j := fun w j z => up_ne (by omega)
    refine ⟨dWf_upd h (l := l) (fun w l' _ _ z => up_ne (by omega)) (fun j => e _ _ (by omega)) ?_ ?_ ?_, ⟨fun q x y => ?_, fun q x y => ?_⟩, e⟩
    · unfold ldW at hl ⊢
      simp (disch := omega) only [up_ne]
      exact hl
    · rw [e _ _ (by omega)]
      rcases hl.2.2.2.2.2.2.1 with a6 | a6
      · exact Or.inr fun l' x y z w => by have := (ldW_u h x y h0 h1 z).1 w; omega
      · exact Or.inl a6.2
    · rw [e _ _ (by omega), gah_eq (D := D) (l := l) (e _ _ (by omega)) (e _ _ (by omega))]
      exact fun q l' x y z w => (ldW_u h x y h0 h1 z).2 w q
    · rw [e _ _ (by omega), e _ _ (by omega)]
      have := hK.1 q x y
      omega
    · rw [e 10 1 (by omega)] at y
      have := hK.2 q x y
      by_cases z : q = l
      · subst z; rw [up_eq]; omega
      · rw [up_ne (by omega)]; omega
  · exact ⟨h, ⟨fun q x y => by have := hK.1 q x y; omega, fun q x y => by have := hK.2 q x y; omega⟩, fun _ _ _ => rfl⟩
theorem only_K {D D' : Int → Int → Int} {l K : Int} (h : only D D' l) (hK : dK D K) : dK D' K := ⟨fun g x y => by rw [h _ _ (by omega), h _ _ (by omega)]; exact hK.1 g x y, fun q x y => by rw [h _ _ (by omega)] at y; rw [h _ _ (by omega)]; exact hK.2 q x y⟩
/-- a round over all loads -/
theorem it_only {C : Cy} {f : (Int → Int → Int) → Int → Int → Int → Int} (hf : ∀ (D : Int → Int → Int) (l : Int), dWf C D → 0 ≤ l → l < D 10 1 → dWf C (f D l) ∧ only D (f D l) l) {D : Int → Int → Int} (h : dWf C D) {K : Int} (hK : dK D K) : ∀ n : Nat, (n : Int) ≤ D 10 1 → dWf C (itD f D n) ∧ dK (itD f D n) K ∧ (∀ j : Int, itD f D n 10 j = D 10 j) ∧ (∀ j : Int, itD f D n 0 j = D 0 j) := by
  intro n
  induction n with
  | zero => exact fun _ => ⟨h, hK, fun _ => rfl, fun _ => rfl⟩
  | succ n ih =>
    intro hn
    obtain ⟨i1, i2, i3, i4⟩ := ih (by omega)
    obtain ⟨j1, j2⟩ := hf (itD f D n) n i1 (by omega) (by rw [i3]; omega)
    exact ⟨j1, only_K j2 i2, fun j => (j2 _ _ (by omega)).trans (i3 j), fun j => (j2 _ _ (by omega)).trans (i4 j)⟩
theorem it_op {C : Cy} (hW : ctW C) {D : Int → Int → Int} (h : dWf C D) {K : Int} (hK : dK D K) : ∀ n : Nat, (n : Int) ≤ C 0 1 0 → dWf C (itD (opD C) D n) ∧ dK (itD (opD C) D n) (K + 107 * n) ∧ (∀ j : Int, itD (opD C) D n 10 j = D 10 j) ∧ (∀ j : Int, itD (opD C) D n 0 j = D 0 j) := by
  intro n
  induction n with
  | zero => exact fun _ => ⟨h, by rw [show K + 107 * ((0 : Nat) : Int) = K by omega]; exact hK, fun _ => rfl, fun _ => rfl⟩
  | succ n ih =>
    intro hn
    obtain ⟨i1, i2, i3, i4⟩ := ih (by omega)
    obtain ⟨j1, j2, j3, j4⟩ := opD_ok hW i1 i2 (g := (n : Int)) (by omega) (by omega)
    have e : K + 107 * ((n + 1 : Nat) : Int) = K + 107 * n + 107 := by omega
    rw [e]
    exact ⟨j1, j2, fun j => (j3 j).trans (i3 j), fun j => (j4 j).trans (i4 j)⟩
theorem it_wt {C : Cy} {D : Int → Int → Int} (h : dWf C D) {K : Int} (hK : dK D K) : ∀ n : Nat, (n : Int) ≤ D 10 1 → dWf C (itD wtD D n) ∧ dK (itD wtD D n) (K + n) ∧ (∀ w j : Int, w ≠ 5 → itD wtD D n w j = D w j) := by
  intro n
  induction n with
  | zero => exact fun _ => ⟨h, by rw [show K + ((0 : Nat) : Int) = K by omega]; exact hK, fun _ _ _ => rfl⟩
  | succ n ih =>
    intro hn
    obtain ⟨i1, i2, i3⟩ := ih (by omega)
    obtain ⟨j1, j2, j3⟩ := wtD_ok i1 i2 (l := (n : Int)) (by omega) (by rw [i3 _ _ (by omega)]; omega)
    have e : K + ((n + 1 : Nat) : Int) = K + n + 1 := by omega
    rw [e]
    exact ⟨j1, j2, fun w j z => (j3 w j z).trans (i3 w j z)⟩

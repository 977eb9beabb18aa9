/-! ===== a day, abstract: D w l, w 0 .. 9 the rows of loads; 10: hour, loads; 11 tolls; 12 worked ===== -/
noncomputable def bO (C : Cy) (o : Int) : Int → Int := bst C (C 5 o 0) (C 5 o 1) (C 5 o 2) (C 5 o 3) (C 5 o 4)
noncomputable def gO (C : Cy) (o : Int) (i : Nat) : Int := bsg C (C 5 o 0) (C 5 o 1) (C 5 o 2) (C 5 o 3) (C 5 o 4) i
noncomputable def thO (C : Cy) (o : Int) : Int → Int := if bO C o 1 = 1 then pt C (C 5 o 0) else wh C (C 5 o 0)
theorem bst_gate {C : Cy} (hW : ctW C) {k r0 p0 r1 p1 : Int} (hp0 : 0 ≤ p0 ∧ p0 < 12) (hf : bst C k r0 p0 r1 p1 0 = 1) (hn : 0 ≤ nst r0 r1) {i : Nat} (hi : (i : Int) < nst r0 r1) : 0 ≤ bsg C k r0 p0 r1 p1 i ∧ bsg C k r0 p0 r1 p1 i < C 0 1 0 := by
  have b_0 : bst C k r0 p0 r1 p1 0 = bI (vwP C k r0 p0 r1 p1 < XF ∨ vcP C k r0 p0 r1 p1 < XF) := rfl
  have key : ∀ th : Int → Int, wcost C th r0 p0 r1 p1 < XF → 0 ≤ gsq C th r0 p0 r1 p1 i ∧ gsq C th r0 p0 r1 p1 i < C 0 1 0 := fun th hv => by
    unfold wcost at hv
    split at hv
    · obtain ⟨-, -, z⟩ := way_step hW hv hp0 i (by omega)
      obtain ⟨z1, z2, -⟩ := z (by omega)
      exact ⟨z1, z2⟩
    · omega
  unfold bsg
  split
  · next hc =>
    have hcut : cutB C k (vwP C k r0 p0 r1 p1) (vcP C k r0 p0 r1 p1) := by
      apply Classical.byContradiction
      intro w
      rw [bI_f w] at hc
      cases hc
    have := hcut.1
    unfold vcP at this
    split at this
    · exact key _ this
    · omega
  · next hc =>
    have hcut : ¬ cutB C k (vwP C k r0 p0 r1 p1) (vcP C k r0 p0 r1 p1) := fun w => hc (bI_t w)
    refine key _ ?_
    have hv : vwP C k r0 p0 r1 p1 < XF ∨ vcP C k r0 p0 r1 p1 < XF := by
      apply Decidable.byContradiction
      intro w
      rw [b_0, bI_f w] at hf
      cases hf
    apply Decidable.byContradiction
    intro w
    have w' : ¬ vwP C k r0 p0 r1 p1 < XF := w
    rcases hv with z | z
    · exact w' z
    · exact hcut ⟨z, Or.inl w'⟩
theorem bst_cut {C : Cy} {k r0 p0 r1 p1 : Int} (hf : bst C k r0 p0 r1 p1 1 = 1) : 0 < pn C k := by
  have b_1 : bst C k r0 p0 r1 p1 1 = bI (cutB C k (vwP C k r0 p0 r1 p1) (vcP C k r0 p0 r1 p1)) := rfl
  have hcut : cutB C k (vwP C k r0 p0 r1 p1) (vcP C k r0 p0 r1 p1) := by
    apply Classical.byContradiction
    intro w
    rw [b_1, bI_f w] at hf
    cases hf
  have := hcut.1
  unfold vcP at this
  split at this
  · next z => exact z
  · omega
theorem bO_01 (C : Cy) (o : Int) : (bO C o 0 = 0 ∨ bO C o 0 = 1) ∧ (bO C o 1 = 0 ∨ bO C o 1 = 1) := ⟨bI_01 _, bI_01 _⟩
theorem bO_5 {C : Cy} (hW : ctW C) {o : Int} (h0 : 0 ≤ o) (h1 : o < C 0 4 0) : 0 ≤ bO C o 5 ∧ bO C o 5 ≤ 5 := by
  have b0 := cw_0 hW
  have o1 := cw_o1 hW o h0 h1
  have o3 := cw_o3 hW o h0 h1
  exact nst_b o1.1 (by omega) o3.1 (by omega)
theorem gO_b {C : Cy} (hW : ctW C) {o : Int} (h0 : 0 ≤ o) (h1 : o < C 0 4 0) (hf : bO C o 0 = 1) {i : Nat} (hi : (i : Int) < bO C o 5) : 0 ≤ gO C o i ∧ gO C o i < C 0 1 0 := by
  have n := bO_5 hW h0 h1
  exact bst_gate hW (cw_o2 hW o h0 h1) hf n.1 hi
theorem thO_W {C : Cy} (hW : ctW C) {o : Int} (h0 : 0 ≤ o) (h1 : o < C 0 4 0) : thW (thO C o) := by
  have k := cw_o0 hW o h0 h1
  unfold thO
  split
  · exact pt_W hW k.1 k.2
  · exact wh_W hW k.1 k.2
/-- the gate that a load goes to or is at -/
noncomputable def gah (C : Cy) (D : Int → Int → Int) (l : Int) : Int := if D 8 l < bO C (D 0 l) 5 then gO C (D 0 l) (D 8 l).toNat else -1
noncomputable def plah (C : Cy) (D : Int → Int → Int) (l : Int) : Int := if gah C D l = -1 then C 5 (D 0 l) 4 else C 2 (gah C D l) 1
/-- bounds of a load -/
def ldW (C : Cy) (D : Int → Int → Int) (l : Int) : Prop := (0 ≤ D 0 l ∧ D 0 l < C 0 4 0) ∧ bO C (D 0 l) 0 = 1 ∧ (0 ≤ D 1 l ∧ D 1 l < C 0 0 0) ∧ (0 ≤ D 2 l ∧ D 2 l < 12) ∧ (0 ≤ D 3 l ∧ D 3 l ≤ 5) ∧ ((D 3 l = 2 ∨ D 3 l = 4) ∧ 1 ≤ D 4 l ∧ D 4 l ≤ 99 ∨ D 3 l ≠ 2 ∧ D 3 l ≠ 4 ∧ D 4 l = 0) ∧ ((D 3 l = 2 ∧ 0 ≤ D 6 l ∧ D 6 l < C 0 2 0) ∨ (D 3 l ≠ 2 ∧ D 6 l = -2)) ∧ (0 ≤ D 8 l ∧ D 8 l ≤ bO C (D 0 l) 5) ∧ ((D 3 l = 3 ∨ D 3 l = 4) → D 8 l < bO C (D 0 l) 5)
/-- no cart, no gate has two -/
def dU (C : Cy) (D : Int → Int → Int) : Prop := ∀ l l' : Int, 0 ≤ l → l < D 10 1 → 0 ≤ l' → l' < D 10 1 → l ≠ l' → (D 6 l = D 6 l' → D 6 l = -2) ∧ (D 3 l = 4 → D 3 l' = 4 → gah C D l ≠ gah C D l')
def dWf (C : Cy) (D : Int → Int → Int) : Prop := (0 ≤ D 10 0 ∧ D 10 0 ≤ 120) ∧ (0 ≤ D 10 1 ∧ D 10 1 ≤ 72) ∧ (∀ l : Int, 0 ≤ l → l < D 10 1 → ldW C D l) ∧ dU C D
/-- bounds of what is counted -/
def dK (D : Int → Int → Int) (K : Int) : Prop := (∀ g : Int, 0 ≤ g → g < 11 → (0 ≤ D 11 g ∧ D 11 g ≤ K) ∧ (0 ≤ D 12 g ∧ D 12 g ≤ K)) ∧ (∀ l : Int, 0 ≤ l → l < D 10 1 → 0 ≤ D 5 l ∧ D 5 l ≤ K)
def itD (f : (Int → Int → Int) → Int → Int → Int → Int) (D : Int → Int → Int) : Nat → Int → Int → Int
  | 0 => D
  | n + 1 => f (itD f D n) n
theorem itD_s {f : (Int → Int → Int) → Int → Int → Int → Int} {D : Int → Int → Int} {i : Int} (h : 0 ≤ i) : itD f D (i + 1).toNat = f (itD f D i.toNat) i := by
  have e : (i + 1).toNat = i.toNat + 1 := by omega
  rw [e]
  show f (itD f D i.toNat) (i.toNat : Int) = _
  rw [Int.toNat_of_nonneg h]
/-- it has come to its gate, or to its end -/
noncomputable def arD (C : Cy) (D : Int → Int → Int) (l : Int) : Int → Int → Int := if gah C D l = -1 then up (up D 3 l 5) 7 l (D 10 0) else up (up D 3 l 3) 9 l (D 10 0)
noncomputable def lcD (C : Cy) (D : Int → Int → Int) (l : Int) : Int → Int → Int := arD C (up (up D 6 l (-2)) 2 l (plah C D l)) l
noncomputable def lgD0 (C : Cy) (D : Int → Int → Int) (l : Int) : Int → Int → Int := up (up (up D 1 l (if D 1 l = C 2 (gah C D l) 0 then C 2 (gah C D l) 0 + 1 else C 2 (gah C D l) 0)) 8 l (D 8 l + 1)) 3 l 1
noncomputable def lgD (C : Cy) (D : Int → Int → Int) (l : Int) : Int → Int → Int := if gah C (lgD0 C D l) l = -1 ∧ D 2 l = plah C (lgD0 C D l) l then arD C (lgD0 C D l) l else lgD0 C D l
/-- 1. a load moves -/
noncomputable def mvD (C : Cy) (D : Int → Int → Int) (l : Int) : Int → Int → Int := if D 3 l ≠ 2 ∧ D 3 l ≠ 4 then D else if 0 < D 4 l - 1 then up D 4 l (D 4 l - 1) else if D 3 l = 2 then lcD C (up D 4 l (D 4 l - 1)) l else lgD C (up D 4 l (D 4 l - 1)) l
/-- the load that is loaded over at a gate -/
noncomputable def bzF (C : Cy) (D : Int → Int → Int) (g : Int) : Nat → Int
  | 0 => -2
  | n + 1 => if bzF C D g n ≠ -2 then bzF C D g n else if D 3 n = 4 ∧ gah C D n = g then n else -2
/-- the foremost that waits at a gate -/
noncomputable def fmF (C : Cy) (D : Int → Int → Int) (g : Int) : Nat → Int
  | 0 => -1
  | n + 1 => if (D 3 n = 3 ∧ gah C D n = g) ∧ (fmF C D g n = -1 ∨ D 9 n < D 9 (fmF C D g n)) then n else fmF C D g n
/-- the load on a cart -/
def onF (D : Int → Int → Int) (c : Int) : Nat → Int
  | 0 => -2
  | n + 1 => if onF D c n ≠ -2 then onF D c n else if D 6 n = c then n else -2
/-- 2. a gate takes the foremost -/
noncomputable def opD (C : Cy) (D : Int → Int → Int) (g : Int) : Int → Int → Int := if bzF C D g (D 10 1).toNat ≠ -2 ∨ fmF C D g (D 10 1).toNat = -1 then D else
  up (up (up (up D 3 (fmF C D g (D 10 1).toNat) 4) 4 (fmF C D g (D 10 1).toNat) (hrsP C (thO C (D 0 (fmF C D g (D 10 1).toNat))) g)) 11 g (D 11 g + C 2 g 5)) 12 g (D 12 g + hrsP C (thO C (D 0 (fmF C D g (D 10 1).toNat))) g * C 2 g 4)
/-- 3. it begins -/
def bgD (C : Cy) (D : Int → Int → Int) (l : Int) : Int → Int → Int := if D 3 l = 0 ∧ C 5 (D 0 l) 5 = D 10 0 then up D 3 l 1 else D
/-- the first free cart that bears it -/
noncomputable def ctF (C : Cy) (D : Int → Int → Int) (l : Int) : Nat → Int
  | 0 => -1
  | n + 1 => if ctF C D l n ≠ -1 then ctF C D l n else if onF D n (D 10 1).toNat = -2 ∧ C 3 n 0 = D 1 l ∧ thO C (D 0 l) 3 ≤ C 3 n 1 then n else -1
noncomputable def drD (C : Cy) (D : Int → Int → Int) (l : Int) : Int → Int → Int := if D 3 l ≠ 1 then D else if D 2 l = plah C D l then arD C D l else if ctF C D l (C 0 2 0).toNat = -1 then D else up (up (up D 6 l (ctF C D l (C 0 2 0).toNat)) 3 l 2) 4 l (rnd (D 2 l) (plah C D l))
noncomputable def soD (C : Cy) (D : Int → Int → Int) (l : Int) : Int → Int → Int := drD C (bgD C D l) l
/-- 4. it waits -/
def wtD (D : Int → Int → Int) (l : Int) : Int → Int → Int := if D 3 l = 1 ∨ D 3 l = 3 then up D 5 l (D 5 l + 1) else D
noncomputable def hrD (C : Cy) (D : Int → Int → Int) : Int → Int → Int :=
  up (itD wtD (itD (soD C) (itD (opD C) (itD (mvD C) D (D 10 1).toNat) (C 0 1 0).toNat) (D 10 1).toNat) (D 10 1).toNat) 10 0 (D 10 0 + 1)
/-! what is the same of two days at a load -/
theorem gah_eq {C : Cy} {D D' : Int → Int → Int} {l : Int} (h0 : D' 0 l = D 0 l) (h8 : D' 8 l = D 8 l) : gah C D' l = gah C D l := by
  unfold gah
  rw [h0, h8]
theorem plah_eq {C : Cy} {D D' : Int → Int → Int} {l : Int} (h0 : D' 0 l = D 0 l) (h8 : D' 8 l = D 8 l) : plah C D' l = plah C D l := by
  unfold plah
  rw [gah_eq h0 h8, h0]
theorem gah_b {C : Cy} (hW : ctW C) {D : Int → Int → Int} {l : Int} (h : ldW C D l) : gah C D l = -1 ∧ D 8 l = bO C (D 0 l) 5 ∨ 0 ≤ gah C D l ∧ gah C D l < C 0 1 0 ∧ D 8 l < bO C (D 0 l) 5 := by
  obtain ⟨a1, a2, -, -, -, -, -, a3, -⟩ := h
  unfold gah
  split
  · next z =>
    have := gO_b hW a1.1 a1.2 a2 (i := (D 8 l).toNat) (by omega)
    exact Or.inr ⟨this.1, this.2, z⟩
  · exact Or.inl ⟨rfl, by omega⟩
theorem plah_b {C : Cy} (hW : ctW C) {D : Int → Int → Int} {l : Int} (h : ldW C D l) : 0 ≤ plah C D l ∧ plah C D l < 12 := by
  have g := gah_b hW h
  unfold plah
  split
  · exact cw_o4 hW _ h.1.1 h.1.2
  · exact cw_g1 hW _ (by omega) (by omega)

/-! ===== ways: the least PAY, then HOURS, in one number ===== -/
abbrev XF : Int := 1125899906842624
def gcost (C : Cy) (th : Int → Int) (g : Int) : Int := payP C th g * 100000 + hrsP C th g
def orng (r0 r1 k : Int) : Int := if r0 < r1 then r0 + k else r0 - k - 1
def nst (r0 r1 : Int) : Int := if r0 < r1 then r1 - r0 else r0 - r1
def mnP (f : Int → Int) : Nat → Int
  | 0 => XF
  | n + 1 => if f n < mnP f n then f n else mnP f n
def ixP (f : Int → Int) : Nat → Int
  | 0 => -1
  | n + 1 => if f n < mnP f n then n else ixP f n
theorem mnP_s {f : Int → Int} {i : Int} (h : 0 ≤ i) : mnP f (i + 1).toNat = if f i < mnP f i.toNat then f i else mnP f i.toNat := by
  have e : (i + 1).toNat = i.toNat + 1 := by omega
  rw [e]
  show (if f (i.toNat : Int) < mnP f i.toNat then f (i.toNat : Int) else mnP f i.toNat) = _
  rw [Int.toNat_of_nonneg h]
theorem ixP_s {f : Int → Int} {i : Int} (h : 0 ≤ i) : ixP f (i + 1).toNat = if f i < mnP f i.toNat then i else ixP f i.toNat := by
  have e : (i + 1).toNat = i.toNat + 1 := by omega
  rw [e]
  show (if f (i.toNat : Int) < mnP f i.toNat then (i.toNat : Int) else ixP f i.toNat) = _
  rw [Int.toNat_of_nonneg h]
theorem mnP_le (f : Int → Int) : ∀ n : Nat, mnP f n ≤ XF ∧ ∀ k : Int, 0 ≤ k → k < n → mnP f n ≤ f k := by
  intro n
  induction n with
  | zero => exact ⟨Int.le_refl _, fun k a b => by omega⟩
  | succ n ih =>
    refine ⟨?_, fun k a b => ?_⟩
    · unfold mnP
      split <;> omega
    · unfold mnP
      by_cases z : k = n
      · subst z
        split <;> omega
      · have := ih.2 k a (by omega)
        split <;> omega
/-- the first least one -/
theorem ixP_spec (f : Int → Int) : ∀ n : Nat, (mnP f n = XF ∧ ixP f n = -1) ∨ (0 ≤ ixP f n ∧ ixP f n < n ∧ f (ixP f n) = mnP f n ∧ mnP f n < XF ∧ ∀ k : Int, 0 ≤ k → k < ixP f n → mnP f n < f k) := by
  intro n
  induction n with
  | zero => exact Or.inl ⟨rfl, rfl⟩
  | succ n ih =>
    have hb := mnP_le f n
    unfold mnP ixP
    by_cases c : f n < mnP f n
    · rw [if_pos c, if_pos c]
      refine Or.inr ⟨by omega, by omega, rfl, by omega, fun k a b => ?_⟩
      have := hb.2 k a b
      omega
    · rw [if_neg c, if_neg c]
      rcases ih with h | ⟨h1, h2, h3, h4, h5⟩
      · exact Or.inl h
      · exact Or.inr ⟨h1, by omega, h3, h4, h5⟩
theorem mnP_congr {f g : Int → Int} : ∀ n : Nat, (∀ k : Int, 0 ≤ k → k < n → f k = g k) → mnP f n = mnP g n ∧ ixP f n = ixP g n := by
  intro n
  induction n with
  | zero => exact fun _ => ⟨rfl, rfl⟩
  | succ n ih =>
    intro h
    obtain ⟨e1, e2⟩ := ih fun k a b => h k a (by omega)
    have e3 := h n (by omega) (by omega)
    unfold mnP ixP
    rw [e1, e2, e3]
    exact ⟨rfl, rfl⟩
def lstP (C : Cy) (th : Int → Int) (r0 r1 : Int) (fr : Int → Int) (k g : Int) : Int := if (C 2 g 0 = orng r0 r1 k ∧ C 2 g 6 = 0 ∧ barsP C th g = 0) ∧ fr (C 2 g 1) < XF then gcost C th g + fr (C 2 g 1) else XF
def vP (C : Cy) (ls : Int → Int) (p g : Int) : Int := if ls g < XF then ls g + rnd p (C 2 g 1) else XF
/-- the rest of a way with j gates still ahead, from a place -/
def frmP (C : Cy) (th : Int → Int) (r0 r1 p1 : Int) : Nat → Int → Int
  | 0 => fun p => rnd p p1
  | j + 1 => fun p => mnP (vP C (lstP C th r0 r1 (frmP C th r0 r1 p1 j) (nst r0 r1 - (j + 1))) p) (C 0 1 0).toNat
/-- the first gate of the best rest -/
def nxtP (C : Cy) (th : Int → Int) (r0 r1 p1 : Int) : Nat → Int → Int
  | 0 => fun _ => -1
  | j + 1 => fun p => ixP (vP C (lstP C th r0 r1 (frmP C th r0 r1 p1 j) (nst r0 r1 - (j + 1))) p) (C 0 1 0).toNat
/-- PAY and HOURS within bounds -/
def gdV (j : Nat) (v : Int) : Prop := v = XF ∨ (0 ≤ v ∧ v / 100000 ≤ 210 * j ∧ v % 100000 ≤ 106 * j + 6)
theorem gcost_b {C : Cy} {th : Int → Int} (hW : ctW C) (hth : thW th) {g : Int} (h0 : 0 ≤ g) (h1 : g < C 0 1 0) : 0 ≤ gcost C th g ∧ gcost C th g / 100000 ≤ 206 ∧ gcost C th g % 100000 ≤ 99 := by
  have b := hrsB hW hth h0 h1
  have c := cw_g5 hW g h0 h1
  unfold gcost payP
  generalize hrsP C th g * C 2 g 4 = z at *
  omega
theorem frm_gd {C : Cy} {th : Int → Int} (hW : ctW C) (hth : thW th) {r0 r1 p1 : Int} (hp : 0 ≤ p1 ∧ p1 < 12) : ∀ (j : Nat) (p : Int), 0 ≤ p → p < 12 → j ≤ 5 → gdV j (frmP C th r0 r1 p1 j p) := by
  intro j
  induction j with
  | zero =>
    intro p a b _
    have := rnd_b a b hp.1 hp.2
    exact Or.inr (by show _ ∧ _ ∧ _; simp only [frmP]; omega)
  | succ j ih =>
    intro p a b hj
    show gdV (j + 1) (mnP _ _)
    have b1 := cw_1 hW
    rcases ixP_spec (vP C (lstP C th r0 r1 (frmP C th r0 r1 p1 j) (nst r0 r1 - (j + 1))) p) (C 0 1 0).toNat with h | ⟨h1, h2, h3, h4, -⟩
    · exact Or.inl h.1
    · generalize ixP _ _ = g at h1 h2 h3
      generalize mnP _ _ = v at h3 h4
      have g1 := cw_g1 hW g h1 (by omega)
      have gc := gcost_b hW hth h1 (by omega : g < C 0 1 0)
      have i1 := ih (C 2 g 1) g1.1 g1.2 (by omega)
      have rb := rnd_b a b g1.1 g1.2
      unfold vP lstP at h3
      split at h3
      · next d =>
        split at h3
        · rcases i1 with i1 | i1
          · omega
          · exact Or.inr (by omega)
        · omega
      · split at h3 <;> omega
/-- the class's number for the same -/
def cv (v : Int) : Int := if v < XF then v / 100000 * 1000 + v % 100000 else 1000000000
theorem cv_lt {x y : Int} {j k : Nat} (hx : gdV j x) (hy : gdV k y) (hj : j ≤ 5) (hk : k ≤ 5) : cv x < cv y ↔ x < y := by
  have hXF : XF = 1125899906842624 := rfl
  unfold cv gdV at *
  split <;> split <;> omega
theorem cv_b {x : Int} {j : Nat} (hx : gdV j x) (hj : j ≤ 5) : 0 ≤ cv x ∧ cv x ≤ 1000000000 ∧ (cv x < 1000000000 ↔ x < XF) ∧ (x < XF → cv x ≤ 1100000) := by
  unfold cv gdV at *
  split <;> omega
def allB (C : Cy) (th : Int → Int) (r0 r1 : Int) : Prop := ∀ r : Int, min r0 r1 ≤ r → r ≤ max r0 r1 → bornP C th r
/-- the cost of a thing's way -/
noncomputable def wcost (C : Cy) (th : Int → Int) (r0 p0 r1 p1 : Int) : Int := if bI (allB C th r0 r1) = 1 then frmP C th r0 r1 p1 (nst r0 r1).toNat p0 else XF
/-- its gates -/
def hereP (C : Cy) (th : Int → Int) (r0 p0 r1 p1 : Int) : Nat → Int
  | 0 => p0
  | k + 1 => C 2 (nxtP C th r0 r1 p1 ((nst r0 r1).toNat - k) (hereP C th r0 p0 r1 p1 k)) 1
def gsq (C : Cy) (th : Int → Int) (r0 p0 r1 p1 : Int) (k : Nat) : Int := nxtP C th r0 r1 p1 ((nst r0 r1).toNat - k) (hereP C th r0 p0 r1 p1 k)
theorem nst_b {r0 r1 : Int} (h0 : 0 ≤ r0) (h1 : r0 < 6) (h2 : 0 ≤ r1) (h3 : r1 < 6) : 0 ≤ nst r0 r1 ∧ nst r0 r1 ≤ 5 := by
  unfold nst
  split <;> omega
/-- along a way that is there every gate is one -/
theorem frm_step {C : Cy} {th : Int → Int} (hW : ctW C) {r0 r1 p1 : Int} {j : Nat} {p : Int} (h : frmP C th r0 r1 p1 (j + 1) p < XF) : 0 ≤ nxtP C th r0 r1 p1 (j + 1) p ∧ nxtP C th r0 r1 p1 (j + 1) p < C 0 1 0 ∧ frmP C th r0 r1 p1 j (C 2 (nxtP C th r0 r1 p1 (j + 1) p) 1) < XF ∧ C 2 (nxtP C th r0 r1 p1 (j + 1) p) 0 = orng r0 r1 (nst r0 r1 - (j + 1)) ∧ openP C th (nxtP C th r0 r1 p1 (j + 1) p) := by
  have b1 := cw_1 hW
  have h : mnP (vP C (lstP C th r0 r1 (frmP C th r0 r1 p1 j) (nst r0 r1 - (j + 1))) p) (C 0 1 0).toNat < XF := h
  show 0 ≤ ixP (vP C (lstP C th r0 r1 (frmP C th r0 r1 p1 j) (nst r0 r1 - (j + 1))) p) (C 0 1 0).toNat ∧ _
  have e : nxtP C th r0 r1 p1 (j + 1) p = ixP (vP C (lstP C th r0 r1 (frmP C th r0 r1 p1 j) (nst r0 r1 - (j + 1))) p) (C 0 1 0).toNat := rfl
  rw [e]
  rcases ixP_spec (vP C (lstP C th r0 r1 (frmP C th r0 r1 p1 j) (nst r0 r1 - (j + 1))) p) (C 0 1 0).toNat with z | ⟨h1, h2, h3, h4, -⟩
  · omega
  · generalize ixP _ _ = g at h1 h2 h3
    rw [← h3] at h4
    unfold vP lstP at h4
    split at h4
    · next d => exact ⟨h1, by omega, d.2, d.1.1, d.1.2.1, d.1.2.2⟩
    · split at h4 <;> omega
theorem way_step {C : Cy} {th : Int → Int} (hW : ctW C) {r0 p0 r1 p1 : Int} (hv : frmP C th r0 r1 p1 (nst r0 r1).toNat p0 < XF) (hp : 0 ≤ p0 ∧ p0 < 12) : ∀ k : Nat, k ≤ (nst r0 r1).toNat → (0 ≤ hereP C th r0 p0 r1 p1 k ∧ hereP C th r0 p0 r1 p1 k < 12) ∧ frmP C th r0 r1 p1 ((nst r0 r1).toNat - k) (hereP C th r0 p0 r1 p1 k) < XF ∧ (k < (nst r0 r1).toNat → 0 ≤ gsq C th r0 p0 r1 p1 k ∧ gsq C th r0 p0 r1 p1 k < C 0 1 0 ∧ C 2 (gsq C th r0 p0 r1 p1 k) 0 = orng r0 r1 k ∧ openP C th (gsq C th r0 p0 r1 p1 k)) := by
  have key : ∀ k : Nat, k < (nst r0 r1).toNat → frmP C th r0 r1 p1 ((nst r0 r1).toNat - k) (hereP C th r0 p0 r1 p1 k) < XF → 0 ≤ gsq C th r0 p0 r1 p1 k ∧ gsq C th r0 p0 r1 p1 k < C 0 1 0 ∧ C 2 (gsq C th r0 p0 r1 p1 k) 0 = orng r0 r1 k ∧ openP C th (gsq C th r0 p0 r1 p1 k) ∧ frmP C th r0 r1 p1 ((nst r0 r1).toNat - (k + 1)) (C 2 (gsq C th r0 p0 r1 p1 k) 1) < XF := by
    intro k hk hf
    obtain ⟨j, hj⟩ : ∃ j, (nst r0 r1).toNat - k = j + 1 := ⟨(nst r0 r1).toNat - k - 1, by omega⟩
    unfold gsq
    rw [hj] at hf ⊢
    obtain ⟨a1, a2, a3, a4, a5⟩ := frm_step hW hf
    have e : (nst r0 r1).toNat - (k + 1) = j := by omega
    rw [e]
    refine ⟨a1, a2, ?_, a5, a3⟩
    rw [a4]
    congr 1
    omega
  intro k
  induction k with
  | zero =>
    intro _
    exact ⟨hp, hv, fun hk => by obtain ⟨a1, a2, a3, a4, -⟩ := key 0 hk hv; exact ⟨a1, a2, a3, a4⟩⟩
  | succ k ih =>
    intro hk
    obtain ⟨-, i2, i3⟩ := ih (by omega)
    obtain ⟨a1, a2, a3, a4, a5⟩ := key k (by omega) i2
    have g1 := cw_g1 hW _ a1 a2
    have e : hereP C th r0 p0 r1 p1 (k + 1) = C 2 (gsq C th r0 p0 r1 p1 k) 1 := rfl
    rw [e]
    refine ⟨g1, a5, fun hk2 => ?_⟩
    obtain ⟨b1, b2, b3, b4, -⟩ := key (k + 1) hk2 (by rw [e]; exact a5)
    exact ⟨b1, b2, b3, b4⟩
/-- the best of a good's ways: 0 whether there is one, 1 CUT, 2 PAY, 3 HOURS, 4 loads, 5 gates -/
def cutB (C : Cy) (k vw vc : Int) : Prop := vc < XF ∧ (¬ vw < XF ∨ vc / 100000 * pn C k < vw / 100000 ∨ (vc / 100000 * pn C k = vw / 100000 ∧ vc % 100000 < vw % 100000))
noncomputable def vwP (C : Cy) (k r0 p0 r1 p1 : Int) : Int := wcost C (wh C k) r0 p0 r1 p1
noncomputable def vcP (C : Cy) (k r0 p0 r1 p1 : Int) : Int := if 0 < pn C k then wcost C (pt C k) r0 p0 r1 p1 else XF
noncomputable def bst (C : Cy) (k r0 p0 r1 p1 : Int) : Int → Int := fun i =>
  if i = 0 then bI (vwP C k r0 p0 r1 p1 < XF ∨ vcP C k r0 p0 r1 p1 < XF)
  else if i = 1 then bI (cutB C k (vwP C k r0 p0 r1 p1) (vcP C k r0 p0 r1 p1))
  else if i = 2 then (if bI (cutB C k (vwP C k r0 p0 r1 p1) (vcP C k r0 p0 r1 p1)) = 1 then vcP C k r0 p0 r1 p1 / 100000 * pn C k else vwP C k r0 p0 r1 p1 / 100000)
  else if i = 3 then (if bI (cutB C k (vwP C k r0 p0 r1 p1) (vcP C k r0 p0 r1 p1)) = 1 then vcP C k r0 p0 r1 p1 % 100000 else vwP C k r0 p0 r1 p1 % 100000)
  else if i = 4 then (if bI (cutB C k (vwP C k r0 p0 r1 p1) (vcP C k r0 p0 r1 p1)) = 1 then pn C k else 1)
  else nst r0 r1
noncomputable def bsg (C : Cy) (k r0 p0 r1 p1 : Int) (i : Nat) : Int := if bI (cutB C k (vwP C k r0 p0 r1 p1) (vcP C k r0 p0 r1 p1)) = 1 then gsq C (pt C k) r0 p0 r1 p1 i else gsq C (wh C k) r0 p0 r1 p1 i
theorem pn_b {C : Cy} (hW : ctW C) {k : Int} (h0 : 0 ≤ k) (h1 : k < C 0 3 0) : pn C k = 0 ∨ (2 ≤ pn C k ∧ pn C k ≤ 9) := by
  have := cw_k4 hW k h0 h1
  unfold pn
  split <;> omega
theorem wh_W {C : Cy} (hW : ctW C) {k : Int} (h0 : 0 ≤ k) (h1 : k < C 0 3 0) : thW (wh C k) := by
  have k0 := cw_k hW k 0 h0 h1 (by omega) (by omega)
  have k1 := cw_k hW k 1 h0 h1 (by omega) (by omega)
  have k2 := cw_k hW k 2 h0 h1 (by omega) (by omega)
  have k3 := cw_k hW k 3 h0 h1 (by omega) (by omega)
  have k5 := cw_k5 hW k h0 h1
  have k6 := cw_k6 hW k h0 h1
  have e0 : wh C k 0 = C 6 k 0 := rfl
  have e1 : wh C k 1 = C 6 k 1 := rfl
  have e2 : wh C k 2 = C 6 k 2 := rfl
  have e3 : wh C k 3 = C 6 k 3 := rfl
  have e4 : wh C k 4 = 1 := rfl
  have e5 : wh C k 5 = 1 - C 6 k 6 := rfl
  have e6 : wh C k 6 = C 6 k 5 := rfl
  unfold thW
  rw [e0, e1, e2, e3, e4, e5, e6]
  omega
theorem upw_b {x d : Int} (h0 : 1 ≤ x) (h1 : x ≤ 99) (hd : d = 0 ∨ (2 ≤ d ∧ d ≤ 9)) : 1 ≤ upw x d ∧ upw x d ≤ 99 := by
  rcases hd with rfl | hd
  · unfold upw
    rw [if_pos (by omega)]
    omega
  · rw [upw_eq (by omega)]
    have := tdivB (by omega : 0 ≤ x) h1 (by omega : 1 ≤ d) hd.2
    obtain ⟨a1, a2, a3, a4⟩ := this
    refine ⟨?_, a2⟩
    rcases Int.lt_or_le 0 (Int.tdiv (x + d - 1) d) with z | z
    · omega
    · have : Int.tdiv (x + d - 1) d = 0 := by omega
      rw [this] at a4
      omega
theorem pt_W {C : Cy} (hW : ctW C) {k : Int} (h0 : 0 ≤ k) (h1 : k < C 0 3 0) : thW (pt C k) := by
  have k0 := cw_k hW k 0 h0 h1 (by omega) (by omega)
  have k1 := cw_k hW k 1 h0 h1 (by omega) (by omega)
  have k2 := cw_k hW k 2 h0 h1 (by omega) (by omega)
  have k3 := cw_k hW k 3 h0 h1 (by omega) (by omega)
  have k5 := cw_k5 hW k h0 h1
  have k6 := cw_k6 hW k h0 h1
  have kp := pn_b hW h0 h1
  have u0 := upw_b k0.1 k0.2 kp
  have u3 := upw_b k3.1 k3.2 kp
  have e0 : pt C k 0 = upw (C 6 k 0) (pn C k) := rfl
  have e1 : pt C k 1 = C 6 k 1 := rfl
  have e2 : pt C k 2 = C 6 k 2 := rfl
  have e3 : pt C k 3 = upw (C 6 k 3) (pn C k) := rfl
  have e4 : pt C k 4 = pn C k := rfl
  have e5 : pt C k 5 = 1 - C 6 k 6 := rfl
  have e6 : pt C k 6 = C 6 k 5 := rfl
  unfold thW
  rw [e0, e1, e2, e3, e4, e5, e6]
  omega

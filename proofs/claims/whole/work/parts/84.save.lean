/-! ===== a gate made larger ===== -/
def wdC (C : Cy) (g w h : Int) : Cy := fun x y z => if x = 2 ∧ y = g ∧ z = 2 then max (C 2 g 2) w else if x = 2 ∧ y = g ∧ z = 3 then max (C 2 g 3) h else C x y z
theorem wdC_ne {C : Cy} {g w h x y z : Int} (hn : x ≠ 2 ∨ y ≠ g ∨ (z ≠ 2 ∧ z ≠ 3)) : wdC C g w h x y z = C x y z := by
  unfold wdC
  rw [if_neg (by omega), if_neg (by omega)]
theorem wdC_2 {C : Cy} {g w h : Int} : wdC C g w h 2 g 2 = max (C 2 g 2) w := if_pos ⟨rfl, rfl, rfl⟩
theorem wdC_3 {C : Cy} {g w h : Int} : wdC C g w h 2 g 3 = max (C 2 g 3) h := by
  unfold wdC
  rw [if_neg (by omega), if_pos ⟨rfl, rfl, rfl⟩]
theorem wdC_W {C : Cy} (hW : ctW C) {g w h : Int} (w0 : 1 ≤ w) (w1 : w ≤ 99) (h0 : 1 ≤ h) (h1 : h ≤ 99) : ctW (wdC C g w h) := by
  have n : ∀ x y z : Int, x ≠ 2 → wdC C g w h x y z = C x y z := fun x y z q => wdC_ne (Or.inl q)
  have m : ∀ y z : Int, z ≠ 2 → z ≠ 3 → wdC C g w h 2 y z = C 2 y z := fun y z a b => wdC_ne (by omega)
  have m2 : ∀ q : Int, 1 ≤ C 2 q 2 ∧ C 2 q 2 ≤ 99 → 1 ≤ wdC C g w h 2 q 2 ∧ wdC C g w h 2 q 2 ≤ 99 := fun q a => by
    by_cases z : q = g
    · rw [z] at a ⊢; rw [wdC_2]; omega
    · rw [wdC_ne (by omega)]; exact a
  have m3 : ∀ q : Int, 1 ≤ C 2 q 3 ∧ C 2 q 3 ≤ 99 → 1 ≤ wdC C g w h 2 q 3 ∧ wdC C g w h 2 q 3 ≤ 99 := fun q a => by
    by_cases z : q = g
    · rw [z] at a ⊢; rw [wdC_3]; omega
    · rw [wdC_ne (by omega)]; exact a
  unfold ctW
  simp (disch := omega) only [n, m]
  exact ⟨cw_0 hW, cw_1 hW, cw_2 hW, cw_3 hW, cw_4 hW, cw_w hW, cw_g0 hW, cw_g1 hW, fun q a b => m2 q (cw_g2 hW q a b), fun q a b => m3 q (cw_g3 hW q a b), cw_g4 hW, cw_g5 hW, cw_g6 hW, cw_c0 hW, cw_c1 hW, cw_s1 hW, cw_s2 hW, cw_o0 hW, cw_o1 hW, cw_o2 hW, cw_o3 hW, cw_o4 hW, cw_o5 hW, cw_k hW, cw_k4 hW, cw_k5 hW, cw_k6 hW⟩
/-! two cities of which the same gates are open -/
theorem frm_cg {C C' : Cy} (h : ∀ x y z, (x ≠ 2 ∨ (z ≠ 2 ∧ z ≠ 3)) → C' x y z = C x y z) {th : Int → Int} (ho : ∀ q, (C' 2 q 6 = 0 ∧ barsP C' th q = 0) ↔ (C 2 q 6 = 0 ∧ barsP C th q = 0)) {r0 r1 p1 : Int} : ∀ j : Nat, frmP C' th r0 r1 p1 j = frmP C th r0 r1 p1 j := by
  have hh : ∀ g, hrsP C' th g = hrsP C th g := fun g => by unfold hrsP; rw [h 2 g 4 (by omega)]
  have hg : ∀ g, gcost C' th g = gcost C th g := fun g => by unfold gcost payP; rw [hh, h 2 g 4 (by omega), h 2 g 5 (by omega)]
  have hl : ∀ (fr : Int → Int) (k g : Int), lstP C' th r0 r1 fr k g = lstP C th r0 r1 fr k g := fun fr k g => by
    unfold lstP
    simp only [h 2 g 0 (by omega), h 2 g 1 (by omega), hg, ho]
  intro j
  induction j with
  | zero => rfl
  | succ j ih =>
    funext p
    unfold frmP
    rw [ih, h 0 1 0 (by omega)]
    congr 1
    funext g
    unfold vP
    rw [hl, h 2 g 1 (by omega)]
theorem bO_cg {C C' : Cy} (h : ∀ x y z, (x ≠ 2 ∨ (z ≠ 2 ∧ z ≠ 3)) → C' x y z = C x y z) (ho : ∀ th q, (C' 2 q 6 = 0 ∧ barsP C' th q = 0) ↔ (C 2 q 6 = 0 ∧ barsP C th q = 0)) (o : Int) : bO C' o = bO C o := by
  have hx : ∀ x y z, x ≠ 2 → C' x y z = C x y z := fun x y z q => h x y z (Or.inl q)
  have hp : ∀ k, pn C' k = pn C k := fun k => by unfold pn; rw [hx 6 k 6 (by omega), hx 6 k 4 (by omega)]
  have hwh : ∀ k, wh C' k = wh C k := fun k => by
    funext i
    unfold wh
    rw [hx 6 k 6 (by omega), hx 6 k 5 (by omega), hx 6 k i (by omega)]
  have hpt : ∀ k, pt C' k = pt C k := fun k => by
    funext i
    unfold pt
    rw [hx 6 k 0 (by omega), hx 6 k 3 (by omega), hx 6 k 6 (by omega), hx 6 k 5 (by omega), hx 6 k i (by omega), hp]
  have hal : ∀ th r0 r1, allB C' th r0 r1 = allB C th r0 r1 := fun th r0 r1 => by
    unfold allB bornP fitsR
    simp (disch := omega) only [hx]
  have hwc : ∀ th r0 p0 r1 p1, wcost C' th r0 p0 r1 p1 = wcost C th r0 p0 r1 p1 := fun th r0 p0 r1 p1 => by
    unfold wcost
    rw [hal, frm_cg h (ho th)]
  have hvw : ∀ k r0 p0 r1 p1, vwP C' k r0 p0 r1 p1 = vwP C k r0 p0 r1 p1 := fun k r0 p0 r1 p1 => by unfold vwP; rw [hwc, hwh]
  have hvc : ∀ k r0 p0 r1 p1, vcP C' k r0 p0 r1 p1 = vcP C k r0 p0 r1 p1 := fun k r0 p0 r1 p1 => by unfold vcP; rw [hwc, hpt, hp]
  have hcu : ∀ k vw vc, cutB C' k vw vc = cutB C k vw vc := fun k vw vc => by unfold cutB; rw [hp]
  unfold bO
  rw [hx 5 o 0 (by omega), hx 5 o 1 (by omega), hx 5 o 2 (by omega), hx 5 o 3 (by omega), hx 5 o 4 (by omega)]
  funext i
  unfold bst
  rw [hvw, hvc, hcu, hp]
theorem apC_cg {C C' : Cy} (h : ∀ x y z, (x ≠ 2 ∨ (z ≠ 2 ∧ z ≠ 3)) → C' x y z = C x y z) (ho : ∀ th q, (C' 2 q 6 = 0 ∧ barsP C' th q = 0) ↔ (C 2 q 6 = 0 ∧ barsP C th q = 0)) : apC C' = apC C := by
  unfold apC
  rw [h 0 4 0 (by omega)]
  have : ∀ n : Nat, apN C' n = apN C n := by
    intro n
    induction n with
    | zero => rfl
    | succ n ih =>
      unfold apN
      rw [ih, bO_cg h ho]
  exact this _
/-- what a breach saves -/
noncomputable def svP (C : Cy) (g w h : Int) : Int := apC C - apC (wdC C g w h)
theorem sv_closed {C : Cy} {g w h : Int} (hc : C 2 g 6 ≠ 0) : svP C g w h = 0 := by
  have := apC_cg (C := C) (C' := wdC C g w h) (fun x y z q => wdC_ne (by omega)) (fun th q => by
    have e6 : wdC C g w h 2 q 6 = C 2 q 6 := wdC_ne (by omega)
    rw [e6]
    by_cases z : q = g
    · rw [z]
      exact ⟨fun a => absurd a.1 hc, fun a => absurd a.1 hc⟩
    · have e0 : wdC C g w h 2 q 0 = C 2 q 0 := wdC_ne (by omega)
      have e2 : wdC C g w h 2 q 2 = C 2 q 2 := wdC_ne (by omega)
      have e3 : wdC C g w h 2 q 3 = C 2 q 3 := wdC_ne (by omega)
      have n : ∀ y z : Int, wdC C g w h 1 y z = C 1 y z := fun y z => wdC_ne (by omega)
      have em : ∀ p, meetsP (wdC C g w h) th q p = meetsP C th q p := fun p => by
        unfold meetsP
        rw [e0, e2, e3, n, n]
      unfold barsP
      rw [em, em, em])
  unfold svP
  omega
theorem sv_small {C : Cy} {g w h : Int} (hw : w ≤ C 2 g 2) (hh : h ≤ C 2 g 3) : svP C g w h = 0 := by
  have e : wdC C g w h = C := by
    funext x y z
    unfold wdC
    split
    · next q => rw [q.1, q.2.1, q.2.2]; omega
    · split
      · next q => rw [q.1, q.2.1, q.2.2]; omega
      · rfl
  unfold svP
  rw [e]
  omega
theorem sv_b {C : Cy} (hW : ctW C) {g w h : Int} (w0 : 1 ≤ w) (w1 : w ≤ 99) (h0 : 1 ≤ h) (h1 : h ≤ 99) : -80000 ≤ svP C g w h ∧ svP C g w h ≤ 80000 := by
  have b4 := cw_4 hW
  have a := apN_b hW (C 0 4 0).toNat (by omega)
  have hW' := wdC_W hW (g := g) w0 w1 h0 h1
  have b4' := cw_4 hW'
  have b := apN_b hW' ((wdC C g w h) 0 4 0).toNat (by omega)
  unfold svP apC
  omega

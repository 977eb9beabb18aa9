/-! ===== the two nets say the same ===== -/
theorem GM_GC {C : Cy} {th : Int → Int} {u v c : Int} (h : GM C th u v c) : GC C (thr C th) u v c := by
  rcases h with ⟨r, p, q, h1, -, h2, h3, h4, h5, h6, h7⟩ | ⟨g, h1, ho, h2, h4⟩
  · exact Or.inl ⟨r, p, q, h1, h2, h3, h4, h5, h6, h7⟩
  · refine Or.inr ⟨g, h1, ?_, h4⟩
    rw [h2]
    unfold thr
    rw [if_pos (bI_t ho)]
theorem nets {C : Cy} (hW : ctW C) {th : Int → Int} (hth : thW th) (h3 : 1 ≤ th 3) {z zM : Int → Int} (hz : ∀ v, z v = min (zM v) 100000) (hz0 : ∀ v, 0 ≤ zM v) (hu : ∀ r p : Int, 0 ≤ r → r < C 0 0 0 → ¬ fitsR C th r → 0 ≤ p → p < 12 → 100000 ≤ zM (r * 12 + p)) (v : Int) : dst (GC C (thr C th)) z v = min (dst (GM C th) zM v) 100000 := by
  have hG := GM_in hW hth h3
  have hGC := GC_in hW (thr := thr C th) (fun g u w => (thr_b hW hth h3 u w).1)
  have hzz : ∀ v, 0 ≤ z v := fun v => by have := hz v; have := hz0 v; omega
  have pos : ∀ v, 0 ≤ dst (GM C th) zM v := fun v => Rch_lb (f := fun _ => 0) hz0 (fun u v c g => by have := hG.n u v c g; omega) (dst_p hz0 hG.n v).1
  have unf : ∀ r p : Int, 0 ≤ r → r < C 0 0 0 → ¬ fitsR C th r → 0 ≤ p → p < 12 → 100000 ≤ dst (GM C th) zM (r * 12 + p) := by
    intro r p a b hf p0 p1
    rcases dst_t hz0 hG.n (r * 12 + p) with e | ⟨u, c, g, -⟩
    · rw [e]; exact hu r p a b hf p0 p1
    · exfalso
      rcases g with ⟨r', p', q, h1, hf', h2, h3, h4, h5, h6, h7⟩ | ⟨g, h1, ho, h2, h4⟩
      · have : r' = r := by omega
        rw [this] at hf'
        exact hf hf'
      · obtain ⟨o1, o2⟩ := open_fits ho
        have g1 := cw_g1 hW g h1.1 h1.2
        unfold spt at h4
        rcases h4 with ⟨-, e⟩ | ⟨-, e⟩
        · have : C 2 g 0 + 1 = r := by omega
          rw [this] at o2
          exact hf o2
        · have : C 2 g 0 = r := by omega
          rw [this] at o1
          exact hf o1
  have up1 : dst (GC C (thr C th)) z v ≤ dst (GM C th) zM v := Rch_lb (f := fun q => dst (GC C (thr C th)) z q) (fun q => by
    show dst (GC C (thr C th)) z q ≤ zM q
    have a := dst_z hzz hGC.n q
    have b := hz q
    omega) (fun u w c g => dst_s hzz hGC.n (GM_GC g)) (dst_p hz0 hG.n v).1
  have up2 : dst (GC C (thr C th)) z v ≤ 100000 := by
    have a := dst_z hzz hGC.n v
    have b := hz v
    omega
  have lo : min (dst (GM C th) zM v) 100000 ≤ dst (GC C (thr C th)) z v := Rch_lb (f := fun q => min (dst (GM C th) zM q) 100000) (fun q => by
    show min (dst (GM C th) zM q) 100000 ≤ z q
    have a := dst_z hz0 hG.n q
    have b := hz q
    omega) (fun u w c g => by
    show min (dst (GM C th) zM w) 100000 ≤ min (dst (GM C th) zM u) 100000 + c
    have pu := pos u
    rcases g with ⟨r, p, q, h1, h2, h3, h4, h5, h6, h7⟩ | ⟨g, h1, h2, h4⟩
    · by_cases hf : fitsR C th r
      · have := dst_s hz0 hG.n (u := u) (v := w) (c := c) (Or.inl ⟨r, p, q, h1, hf, h2, h3, h4, h5, h6, h7⟩)
        omega
      · have a := unf r p h1.1 h1.2 hf h2.1 h2.2
        rw [← h5] at a
        omega
    · by_cases ho : openP C th g
      · unfold thr at h2
        rw [if_pos (bI_t ho)] at h2
        have ge : GM C th u w c := Or.inr ⟨g, h1, ho, h2, h4⟩
        have := dst_s hz0 hG.n ge
        have := hG.n _ _ _ ge
        omega
      · unfold thr at h2
        rw [bI_f ho, if_neg (by omega)] at h2
        omega) (dst_p hzz hGC.n v).1
  omega
/-- out of a ring that it does not fit there is no way -/
theorem lockd {C : Cy} (hW : ctW C) {th : Int → Int} (hth : thW th) (h3 : 1 ≤ th 3) {z : Int → Int} {r : Int} (hz0 : ∀ v, 0 ≤ z v) (hz : ∀ v, ¬ (r * 12 ≤ v ∧ v < r * 12 + 12) → 100000 ≤ z v) (hf : ¬ fitsR C th r) {v : Int} (hv : ¬ (r * 12 ≤ v ∧ v < r * 12 + 12)) : 100000 ≤ dst (GC C (thr C th)) z v := by
  have hGC := GC_in hW (thr := thr C th) (fun g u w => (thr_b hW hth h3 u w).1)
  have := Rch_lb (f := fun q => if r * 12 ≤ q ∧ q < r * 12 + 12 then 0 else 100000) (fun q => by
    show (if r * 12 ≤ q ∧ q < r * 12 + 12 then (0 : Int) else 100000) ≤ z q
    split
    · exact hz0 q
    · next w => exact hz q w) (fun u w c g => by
    show (if r * 12 ≤ w ∧ w < r * 12 + 12 then (0 : Int) else 100000) ≤ (if r * 12 ≤ u ∧ u < r * 12 + 12 then (0 : Int) else 100000) + c
    rcases g with ⟨r', p, q, h1, h2, h3, h4, h5, h6, h7⟩ | ⟨g, h1, h2, h4⟩
    · have e : (r * 12 ≤ w ∧ w < r * 12 + 12) ↔ (r * 12 ≤ u ∧ u < r * 12 + 12) := by omega
      simp only [e]
      omega
    · by_cases ho : openP C th g
      · obtain ⟨o1, o2⟩ := open_fits ho
        have g1 := cw_g1 hW g h1.1 h1.2
        have b := thr_b hW hth h3 h1.1 h1.2
        have n1 : C 2 g 0 ≠ r := fun e => hf (e ▸ o1)
        have n2 : C 2 g 0 + 1 ≠ r := fun e => hf (e ▸ o2)
        unfold spt at h4
        rw [if_neg (by omega), if_neg (by omega)]
        omega
      · unfold thr at h2
        rw [bI_f ho, if_neg (by omega)] at h2
        split <;> split <;> omega) (dst_p hz0 hGC.n v).1
  have e : (fun q => if r * 12 ≤ q ∧ q < r * 12 + 12 then (0 : Int) else 100000) v = 100000 := if_neg hv
  have e2 : (if r * 12 ≤ v ∧ v < r * 12 + 12 then (0 : Int) else 100000) = 100000 := if_neg hv
  first
    | (rw [e] at this; exact this)
    | (rw [e2] at this; exact this)
def zSM (s : Int) : Int → Int := fun v => if v = s then 0 else 1048576
noncomputable def zUM (C : Cy) (th : Int → Int) : Int → Int := fun v => if bI ((0 ≤ v ∧ v < 12) ∧ fitsR C th 0) = 1 then 0 else 1048576
def byM (C : Cy) (th : Int → Int) (s hours g : Int) : Prop := openP C th g ∧ (dst (GM C th) (zSM s) (spt C g) + hrsP C th g + dst (GM C th) (zUM C th) (spt C g + 12) ≤ hours ∨ dst (GM C th) (zSM s) (spt C g + 12) + hrsP C th g + dst (GM C th) (zUM C th) (spt C g) ≤ hours)
theorem dst_nn {G : Int → Int → Int → Prop} {z : Int → Int} (hz : ∀ v, 0 ≤ z v) (hG : gin G) (v : Int) : 0 ≤ dst G z v := Rch_lb (f := fun _ => 0) hz (fun u v c g => by have := hG.n u v c g; omega) (dst_p hz hG.n v).1
theorem zS_b (s v : Int) : 0 ≤ zS s v ∧ zS s v ≤ 100000 := by unfold zS; split <;> omega
theorem zU_b (v : Int) : 0 ≤ zU v ∧ zU v ≤ 100000 := by unfold zU; split <;> omega
theorem zSM_b (s v : Int) : 0 ≤ zSM s v ∧ zSM s v ≤ 1048576 := by unfold zSM; split <;> omega
theorem zUM_b (C : Cy) (th : Int → Int) (v : Int) : 0 ≤ zUM C th v ∧ zUM C th v ≤ 1048576 := by unfold zUM; split <;> omega
theorem by_iff {C : Cy} (hW : ctW C) {th : Int → Int} (hth : thW th) (h3 : 1 ≤ th 3) {r p hours g : Int} (r0 : 0 ≤ r) (r1 : r < C 0 0 0) (p0 : 0 ≤ p) (p1 : p < 12) (hf : fitsR C th r) (hh : hours ≤ 99) (g0 : 0 ≤ g) (g1 : g < C 0 1 0) : byG C th (r * 12 + p) hours g ↔ byM C th (r * 12 + p) hours g := by
  have hG := GM_in hW hth h3
  have hGC := GC_in hW (thr := thr C th) (fun g u w => (thr_b hW hth h3 u w).1)
  have eS := nets hW hth h3 (z := zS (r * 12 + p)) (zM := zSM (r * 12 + p)) (fun v => by unfold zS zSM; split <;> omega) (fun v => (zSM_b _ v).1) (fun r' p' a b hf' c d => by
    unfold zSM
    rw [if_neg (fun e => hf' (by have : r' = r := by omega
                                 rw [this]; exact hf))]
    omega)
  have nS : ∀ v, 0 ≤ dst (GM C th) (zSM (r * 12 + p)) v := dst_nn (fun v => (zSM_b _ v).1) hG
  have nU : ∀ v, 0 ≤ dst (GM C th) (zUM C th) v := dst_nn (fun v => (zUM_b _ _ v).1) hG
  have cS : ∀ v, 0 ≤ dst (GC C (thr C th)) (zS (r * 12 + p)) v := dst_nn (fun v => (zS_b _ v).1) hGC
  have cU : ∀ v, 0 ≤ dst (GC C (thr C th)) zU v := dst_nn (fun v => (zU_b v).1) hGC
  have tb := thr_b hW hth h3 g0 g1
  have hb := hrsB hW hth g0 g1
  have w1 := nS (spt C g)
  have w2 := nS (spt C g + 12)
  have w3 := nU (spt C g)
  have w4 := nU (spt C g + 12)
  have x1 := cS (spt C g)
  have x2 := cS (spt C g + 12)
  have x3 := cU (spt C g)
  have x4 := cU (spt C g + 12)
  have y1 := eS (spt C g)
  have y2 := eS (spt C g + 12)
  unfold byG byM
  by_cases ho : openP C th g
  · have et : thr C th g = hrsP C th g := by unfold thr; rw [if_pos (bI_t ho)]
    rw [et]
    by_cases h0 : fitsR C th 0
    · have eU := nets hW hth h3 (z := zU) (zM := zUM C th) (fun v => by
        unfold zU zUM
        by_cases w : 0 ≤ v ∧ v < 12
        · rw [if_pos w, if_pos (bI_t ⟨w, h0⟩)]; omega
        · rw [if_neg w, bI_f (fun q => w q.1), if_neg (by omega)]; omega) (fun v => (zUM_b _ _ v).1) (fun r' p' a b hf' c d => by
        unfold zUM
        have : r' ≠ 0 := fun e => hf' (e ▸ h0)
        rw [bI_f (fun q => by have := q.1; omega), if_neg (by omega)]
        omega)
      have z1 := eU (spt C g)
      have z2 := eU (spt C g + 12)
      constructor
      · intro w
        exact ⟨ho, by omega⟩
      · rintro ⟨-, w⟩
        omega
    · have lk : ∀ v, ¬ (0 * 12 ≤ v ∧ v < 0 * 12 + 12) → 100000 ≤ dst (GC C (thr C th)) zU v := fun v hv => lockd hW hth h3 (z := zU) (r := 0) (fun v => (zU_b v).1) (fun v w => by unfold zU; rw [if_neg (by omega)]; omega) h0 hv
      obtain ⟨o1, o2⟩ := open_fits ho
      have n1 : C 2 g 0 ≠ 0 := fun e => h0 (e ▸ o1)
      have c0 := cw_g0 hW g g0 g1
      have c1 := cw_g1 hW g g0 g1
      have es : spt C g = C 2 g 0 * 12 + C 2 g 1 := rfl
      have k1 := lk (spt C g) (by omega)
      have k2 := lk (spt C g + 12) (by omega)
      have bigU : ∀ v, 1048576 ≤ dst (GM C th) (zUM C th) v := fun v => Rch_lb (f := fun _ => 1048576) (fun v => by
        unfold zUM
        rw [bI_f (fun q => h0 q.2), if_neg (by omega)]
        omega) (fun u v c g => by have := hG.n u v c g; omega) (dst_p (fun v => (zUM_b _ _ v).1) hG.n v).1
      have m1 := bigU (spt C g)
      have m2 := bigU (spt C g + 12)
      constructor
      · intro w; omega
      · rintro ⟨-, w⟩; omega
  · have et : thr C th g = 100000 := by unfold thr; rw [bI_f ho, if_neg (by omega)]
    rw [et]
    constructor
    · intro w; omega
    · rintro ⟨w, -⟩; exact absurd w ho
theorem by_no {C : Cy} (hW : ctW C) {th : Int → Int} (hth : thW th) (h3 : 1 ≤ th 3) {r p hours g : Int} (p0 : 0 ≤ p) (p1 : p < 12) (hf : ¬ fitsR C th r) (hh : hours ≤ 99) (g0 : 0 ≤ g) (g1 : g < C 0 1 0) : ¬ byG C th (r * 12 + p) hours g := by
  have hGC := GC_in hW (thr := thr C th) (fun g u w => (thr_b hW hth h3 u w).1)
  have cS : ∀ v, 0 ≤ dst (GC C (thr C th)) (zS (r * 12 + p)) v := dst_nn (fun v => (zS_b _ v).1) hGC
  have cU : ∀ v, 0 ≤ dst (GC C (thr C th)) zU v := dst_nn (fun v => (zU_b v).1) hGC
  have tb := thr_b hW hth h3 g0 g1
  have x1 := cS (spt C g)
  have x2 := cS (spt C g + 12)
  have x3 := cU (spt C g)
  have x4 := cU (spt C g + 12)
  unfold byG
  by_cases ho : openP C th g
  · have lk : ∀ v, ¬ (r * 12 ≤ v ∧ v < r * 12 + 12) → 100000 ≤ dst (GC C (thr C th)) (zS (r * 12 + p)) v := fun v hv => lockd hW hth h3 (z := zS (r * 12 + p)) (r := r) (fun v => (zS_b _ v).1) (fun v w => by unfold zS; rw [if_neg (by omega)]; omega) hf hv
    obtain ⟨o1, o2⟩ := open_fits ho
    have n1 : C 2 g 0 ≠ r := fun e => hf (e ▸ o1)
    have n2 : C 2 g 0 + 1 ≠ r := fun e => hf (e ▸ o2)
    have c1 := cw_g1 hW g g0 g1
    have es : spt C g = C 2 g 0 * 12 + C 2 g 1 := rfl
    have k1 := lk (spt C g) (by omega)
    have k2 := lk (spt C g + 12) (by omega)
    intro w
    omega
  · have et : thr C th g = 100000 := by unfold thr; rw [bI_f ho, if_neg (by omega)]
    rw [et]
    intro w
    omega
theorem btF_no {P : Int → Prop} : ∀ n : Nat, (∀ v : Int, 0 ≤ v → v < n → ¬ P v) → btF P n = 0 := by
  intro n
  induction n with
  | zero => intro _; rfl
  | succ n ih =>
    intro h
    unfold btF
    rw [bI_f (h n (by omega) (by omega)), if_neg (by omega)]
    exact ih (fun v x y => h v x (by omega))
theorem btF_0 {P : Int → Prop} : ∀ n : Nat, bOr (btF P n) 0 = btF P n := by
  intro n
  induction n with
  | zero =>
    show bOr 0 0 = 0
    decide
  | succ n ih =>
    unfold btF
    split
    · unfold bOr
      rw [Int32.ofInt_toInt]
      congr 1
      exact Int32.or_zero
    · exact ih

/-! ===== least hours in a net ===== -/
def Rn (G : Int → Int → Int → Prop) (z : Int → Int) : Nat → Int → Int → Prop
  | 0, v, d => d = z v
  | n + 1, v, d => Rn G z n v d ∨ ∃ u c, G u v c ∧ Rn G z n u (d - c)
def Rch (G : Int → Int → Int → Prop) (z : Int → Int) (v d : Int) : Prop := ∃ n, Rn G z n v d
theorem Rch_b {G : Int → Int → Int → Prop} {z : Int → Int} {v : Int} : Rch G z v (z v) := ⟨0, rfl⟩
theorem Rch_s {G : Int → Int → Int → Prop} {z : Int → Int} {u v d c : Int} (h : Rch G z u d) (g : G u v c) : Rch G z v (d + c) := by
  obtain ⟨n, hn⟩ := h
  have e : d + c - c = d := by omega
  exact ⟨n + 1, Or.inr ⟨u, c, g, e.symm ▸ hn⟩⟩
theorem Rch_lb {G : Int → Int → Int → Prop} {z : Int → Int} {f : Int → Int} (h0 : ∀ v, f v ≤ z v) (hf : ∀ u v c, G u v c → f v ≤ f u + c) {v d : Int} (h : Rch G z v d) : f v ≤ d := by
  obtain ⟨n, hn⟩ := h
  induction n generalizing v d with
  | zero =>
    have hn : d = z v := hn
    have := h0 v
    omega
  | succ n ih =>
    rcases hn with hn | ⟨u, c, g, hn⟩
    · exact ih hn
    · have a := ih hn
      have b := hf u v c g
      omega
theorem Rch_c {G : Int → Int → Int → Prop} {z : Int → Int} {v d : Int} (h : Rch G z v d) : d = z v ∨ ∃ u c d', G u v c ∧ Rch G z u d' ∧ d = d' + c := by
  obtain ⟨n, hn⟩ := h
  induction n with
  | zero => exact Or.inl hn
  | succ n ih =>
    rcases hn with hn | ⟨u, c, g, hn⟩
    · exact ih hn
    · exact Or.inr ⟨u, c, d - c, g, ⟨n, hn⟩, by omega⟩
theorem exlst {P : Int → Prop} (h : ∃ d, P d) (nn : ∀ d, P d → 0 ≤ d) : ∃ d, P d ∧ ∀ e, P e → d ≤ e := by
  obtain ⟨d0, h0⟩ := h
  have key : ∀ n : Nat, ∀ d, P d → d ≤ n → ∃ d, P d ∧ ∀ e, P e → d ≤ e := by
    intro n
    induction n with
    | zero =>
      intro d hd hn
      refine ⟨d, hd, fun e he => ?_⟩
      have := nn e he
      omega
    | succ n ih =>
      intro d hd hn
      by_cases hx : ∃ e, P e ∧ e < d
      · obtain ⟨e, he, hl⟩ := hx
        exact ih e he (by omega)
      · exact ⟨d, hd, fun e he => by
          apply Decidable.byContradiction
          intro w
          exact hx ⟨e, he, by omega⟩⟩
  exact key d0.toNat d0 h0 (by omega)
noncomputable def dst (G : Int → Int → Int → Prop) (z : Int → Int) (v : Int) : Int := @dite Int (∃ d, Rch G z v d ∧ ∀ e, Rch G z v e → d ≤ e) (Classical.propDecidable _) (fun h => Classical.choose h) (fun _ => 0)
theorem dst_p {G : Int → Int → Int → Prop} {z : Int → Int} (hz : ∀ v, 0 ≤ z v) (hG : ∀ u v c, G u v c → 0 ≤ c) (v : Int) : Rch G z v (dst G z v) ∧ ∀ e, Rch G z v e → dst G z v ≤ e := by
  have h : ∃ d, Rch G z v d ∧ ∀ e, Rch G z v e → d ≤ e := exlst ⟨_, Rch_b⟩ (fun d hd => Rch_lb (f := fun _ => 0) hz (fun u v c g => by have := hG u v c g; omega) hd)
  unfold dst
  rw [dif_pos h]
  exact Classical.choose_spec h
theorem dst_z {G : Int → Int → Int → Prop} {z : Int → Int} (hz : ∀ v, 0 ≤ z v) (hG : ∀ u v c, G u v c → 0 ≤ c) (v : Int) : dst G z v ≤ z v := (dst_p hz hG v).2 _ Rch_b
theorem dst_s {G : Int → Int → Int → Prop} {z : Int → Int} (hz : ∀ v, 0 ≤ z v) (hG : ∀ u v c, G u v c → 0 ≤ c) {u v c : Int} (g : G u v c) : dst G z v ≤ dst G z u + c := (dst_p hz hG v).2 _ (Rch_s (dst_p hz hG u).1 g)
theorem dst_t {G : Int → Int → Int → Prop} {z : Int → Int} (hz : ∀ v, 0 ≤ z v) (hG : ∀ u v c, G u v c → 0 ≤ c) (v : Int) : dst G z v = z v ∨ ∃ u c, G u v c ∧ dst G z v = dst G z u + c := by
  rcases Rch_c (dst_p hz hG v).1 with h | ⟨u, c, d', g, hr, he⟩
  · exact Or.inl h
  · have a := (dst_p hz hG u).2 _ hr
    have b := dst_s hz hG g
    exact Or.inr ⟨u, c, g, by omega⟩
/-- what is sound and closed is the least -/
theorem dst_u {G : Int → Int → Int → Prop} {z : Int → Int} (hz : ∀ v, 0 ≤ z v) (hG : ∀ u v c, G u v c → 0 ≤ c) {f : Int → Int} (h0 : ∀ v, f v ≤ z v) (hf : ∀ u v c, G u v c → f v ≤ f u + c) (v : Int) (hr : Rch G z v (f v)) : f v = dst G z v := by
  have a := (dst_p hz hG v).2 _ hr
  have b := Rch_lb h0 hf (dst_p hz hG v).1
  omega
/-- how many -/
noncomputable def cnt (P : Int → Prop) : Nat → Int
  | 0 => 0
  | n + 1 => cnt P n + bI (P n)
theorem cnt_b (P : Int → Prop) : ∀ n : Nat, 0 ≤ cnt P n ∧ cnt P n ≤ n := by
  intro n
  induction n with
  | zero => exact ⟨Int.le_refl _, Int.le_refl _⟩
  | succ n ih =>
    have := bI_01 (P n)
    unfold cnt
    omega
theorem cnt_m {P P' : Int → Prop} : ∀ n : Nat, (∀ v : Int, 0 ≤ v → v < n → P v → P' v) → cnt P n ≤ cnt P' n := by
  intro n
  induction n with
  | zero => intro _; exact Int.le_refl _
  | succ n ih =>
    intro h
    have a := ih (fun v x y => h v x (by omega))
    unfold cnt
    have b := bI_01 (P' n)
    by_cases z : P n
    · rw [bI_t z, bI_t (h n (by omega) (by omega) z)]; omega
    · rw [bI_f z]; omega
theorem cnt_l {P P' : Int → Prop} {w : Int} : ∀ n : Nat, (∀ v : Int, 0 ≤ v → v < n → P v → P' v) → 0 ≤ w → w < n → ¬ P w → P' w → cnt P n + 1 ≤ cnt P' n := by
  intro n
  induction n with
  | zero => intro _ a b; omega
  | succ n ih =>
    intro h a b p q
    unfold cnt
    by_cases z : w = n
    · have := cnt_m (P := P) (P' := P') n (fun v x y => h v x (by omega))
      rw [← z, bI_f p, bI_t q]
      omega
    · have := ih (fun v x y => h v x (by omega)) a (by omega) p q
      have b := bI_01 (P' n)
      by_cases y : P n
      · rw [bI_t y, bI_t (h n (by omega) (by omega) y)]; omega
      · rw [bI_f y]; omega
theorem cnt_all {P : Int → Prop} : ∀ n : Nat, (n : Int) ≤ cnt P n → ∀ v : Int, 0 ≤ v → v < n → P v := by
  intro n
  induction n with
  | zero => intro _ v a b; omega
  | succ n ih =>
    intro h v a b
    have e : cnt P (n + 1) = cnt P n + bI (P n) := rfl
    have c := cnt_b P n
    have d := bI_01 (P n)
    by_cases z : v = n
    · apply Classical.byContradiction
      intro w
      rw [z] at w
      rw [bI_f w] at e
      omega
    · exact ih (by omega) v a (by omega)

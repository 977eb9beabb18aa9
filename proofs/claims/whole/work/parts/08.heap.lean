/-! ===== soundness of the rows that read and write cells ===== -/
theorem ftN_ok : ∀ ci, ci < 11 → ∀ r, clsA[ci]? = some r → ftN (10 + ci) = r.2.2 := by
  intro ci hci r hr
  have : ∀ ci, ci < 11 → (clsA[ci]?).map (fun r => r.2.2) = some (ftN (10 + ci)) := by decide
  have h := this ci hci
  rw [hr] at h
  exact (Option.some.inj h).symm
/-- the stack's type of a slot's type -/
def sty (t : Nat) : Nat := match t with
  | 2 => 0
  | 3 => 0
  | t => t
theorem ev_sty (G : GT) (t : Nat) (x : Int) : ev G (sty t) x = ev G t x := by
  unfold sty
  split <;> rfl
theorem vt_sty {h : tH} {t : Nat} {x : Int} (v : vt h t x) : vt h (sty t) x := by
  unfold sty
  split
  · exact ⟨by have := v.1; omega, by have := v.2; omega⟩
  · rcases v with rfl | rfl <;> exact ⟨by decide, by decide⟩
  · exact v
theorem RH.obj {G : GT} {h : tH} {H : Heap} (r : RH G h H) {a : Int} {ci : Nat} (hci : ci < 11) (hk : Kd h a = some (10 + ci)) {q : vw_C} (hq : clsA[ci]? = some q) : t_OB a.toNat ((gD G).1 ci) q.2.2 ((gD G).2 ci) H (fun k => ev G (ft (10 + ci) k) (Me h a k)) ∧ ∀ k : Nat, k < q.2.2 → vt h (ft (10 + ci) k) (Me h a k) := by
  obtain ⟨-, h1, h2⟩ := r.2.2.2 a _ hk
  unfold cR at h1
  unfold cT at h2
  rw [if_pos (by omega)] at h1 h2
  rw [show 10 + ci - 10 = ci by omega] at h1
  obtain ⟨r', e1, e2⟩ := h1
  cases hq.symm.trans e1
  exact ⟨e2, fun k hk => h2 k (by rw [ftN_ok ci hci q hq]; exact hk)⟩
theorem RH.arr {G : GT} {h : tH} {H : Heap} (r : RH G h H) {a : Int} {e : Nat} (hk : Kd h a = some (100 + e)) : H[a.toNat]? = some (arrV (gA G (100 + e)) (Ln h a).toNat (fun j => ev G e (Me h a j))) ∧ (0 ≤ Ln h a ∧ Ln h a ≤ 100000) ∧ ∀ j : Int, 0 ≤ j → j < Ln h a → vt h e (Me h a j) := by
  obtain ⟨-, h1, h2⟩ := r.2.2.2 a _ hk
  unfold cR at h1
  unfold cT at h2
  rw [if_neg (by omega)] at h1 h2
  rw [show 100 + e - 100 = e by omega] at h1 h2
  exact ⟨h1, h2⟩
theorem hLe_Up {h : tH} {a i v : Int} : hLe h (Up h a i v) := fun _ _ q => q
theorem vt_Up {h : tH} {a i v : Int} {t : Nat} {x : Int} : vt (Up h a i v) t x ↔ vt h t x := by
  unfold vt
  split <;> first | rfl | exact Iff.rfl
/-- a written slot of an object -/
theorem RH.putO {G : GT} {h : tH} {H H' : Heap} (r : RH G h H) {a : Int} {ci k : Nat} {v : Int} (hci : ci < 11) (hk : Kd h a = some (10 + ci)) {q : vw_C} (hq : clsA[ci]? = some q) (hv : vt h (ft (10 + ci) k) v)
    (ho : t_OB a.toNat ((gD G).1 ci) q.2.2 ((gD G).2 ci) H' (updV (fun k => ev G (ft (10 + ci) k) (Me h a k)) k (ev G (ft (10 + ci) k) v))) (hz : H'.size = H.size) (hoth : ∀ x : Nat, x ≠ a.toNat → H'[x]? = H[x]?) : RH G (Up h a k v) H' := by
  have ha := r.2.2.2 a _ hk
  refine ⟨hz.trans r.1, r.2.1, fun x hx => ?_, fun b κ hb => ?_⟩
  · have := ha.1.1
    rw [hoth x (by omega)]
    exact r.2.2.1 x hx
  · have hb' : Kd h b = some κ := hb
    obtain ⟨g1, g2, g3⟩ := r.2.2.2 b κ hb'
    refine ⟨g1, ?_, ?_⟩
    · by_cases e : b = a
      · subst e
        cases hb'.symm.trans hk
        unfold cR
        rw [if_pos (by omega), show 10 + ci - 10 = ci by omega]
        refine ⟨q, hq, ho.to fun j _ => ?_⟩
        show updV _ k _ j = ev G _ (Me (Up h b k v) b j)
        rw [Me_Up]
        unfold updV
        by_cases ej : j = k
        · subst ej
          rw [if_pos rfl, if_pos ⟨rfl, rfl⟩]
        · rw [if_neg ej, if_neg (fun z => ej (by omega))]
      · have hbn : b.toNat ≠ a.toNat := by
          have := ha.1.1
          have := g1.1
          omega
        unfold cR at g2 ⊢
        have hme : ∀ j : Int, Me (Up h a k v) b j = Me h b j := fun j => if_neg (fun z => e z.1)
        split
        · next hlt =>
          rw [if_pos hlt] at g2
          obtain ⟨r', e1, e2⟩ := g2
          refine ⟨r', e1, ?_⟩
          simp only [hme]
          exact e2.kept (hoth _ hbn)
        · next hlt =>
          rw [if_neg hlt] at g2
          simp only [hme]
          rw [hoth _ hbn]
          exact g2
    · unfold cT at g3 ⊢
      split
      · next hlt =>
        rw [if_pos hlt] at g3
        intro j hj
        rw [vt_Up, Me_Up]
        split
        · next z =>
          obtain ⟨rfl, z2⟩ := z
          have : j = k := by omega
          subst this
          cases hb'.symm.trans hk
          exact hv
        · exact g3 j hj
      · next hlt =>
        rw [if_neg hlt] at g3
        refine ⟨g3.1, fun j h1 h2 => ?_⟩
        rw [vt_Up, Me_Up]
        split
        · next z =>
          obtain ⟨rfl, z2⟩ := z
          cases hb'.symm.trans hk
          omega
        · exact g3.2 j h1 h2
/-- a written element of an array -/
theorem RH.putA {G : GT} {h : tH} {H H' : Heap} (r : RH G h H) {a : Int} {e : Nat} {i v : Int} (hk : Kd h a = some (100 + e)) (hi : 0 ≤ i ∧ i < Ln h a) (hv : vt h e v)
    (ho : H'[a.toNat]? = some ((arrV (gA G (100 + e)) (Ln h a).toNat (fun j => ev G e (Me h a j))).setSlot i.toNat (ev G e v))) (hz : H'.size = H.size) (hoth : ∀ x : Nat, x ≠ a.toNat → H'[x]? = H[x]?) : RH G (Up h a i v) H' := by
  have ha := r.2.2.2 a _ hk
  refine ⟨hz.trans r.1, r.2.1, fun x hx => ?_, fun b κ hb => ?_⟩
  · have := ha.1.1
    rw [hoth x (by omega)]
    exact r.2.2.1 x hx
  · have hb' : Kd h b = some κ := hb
    obtain ⟨g1, g2, g3⟩ := r.2.2.2 b κ hb'
    refine ⟨g1, ?_, ?_⟩
    · by_cases e9 : b = a
      · subst e9
        cases hb'.symm.trans hk
        unfold cR
        rw [if_neg (by omega), show 100 + e - 100 = e by omega, ho, arrV_store]
        congr 2
        funext j
        rw [Me_Up]
        unfold updV
        by_cases ej : j = i.toNat
        · subst ej
          rw [if_pos rfl, if_pos ⟨rfl, by omega⟩]
        · rw [if_neg ej, if_neg (fun z => ej (by omega))]
      · have hbn : b.toNat ≠ a.toNat := by
          have := ha.1.1
          have := g1.1
          omega
        unfold cR at g2 ⊢
        have hme : ∀ j : Int, Me (Up h a i v) b j = Me h b j := fun j => if_neg (fun z => e9 z.1)
        split
        · next hlt =>
          rw [if_pos hlt] at g2
          obtain ⟨r', e1, e2⟩ := g2
          refine ⟨r', e1, ?_⟩
          simp only [hme]
          exact e2.kept (hoth _ hbn)
        · next hlt =>
          rw [if_neg hlt] at g2
          simp only [hme]
          rw [hoth _ hbn]
          exact g2
    · unfold cT at g3 ⊢
      split
      · next hlt =>
        rw [if_pos hlt] at g3
        intro j hj
        rw [vt_Up, Me_Up]
        split
        · next z =>
          obtain ⟨rfl, z2⟩ := z
          cases hb'.symm.trans hk
          omega
        · exact g3 j hj
      · next hlt =>
        rw [if_neg hlt] at g3
        refine ⟨g3.1, fun j h1 h2 => ?_⟩
        rw [vt_Up, Me_Up]
        split
        · next z =>
          obtain ⟨rfl, z2⟩ := z
          cases hb'.symm.trans hk
          rw [show 100 + e - 100 = e by omega]
          exact hv
        · exact g3.2 j h1 h2
section SD4
variable {X : CX} {pc : Nat} {Γ Γ' : List (Nat × Nat)} {τ : List Nat} {k kt kf : tK} {cc : ByteArray} {own : String} {Ts : List Cond}
theorem sd_get (hC : CF X cc own Ts) {ci j index : Nat} {C : String} {T : u_T} {N : Nat} {i : Int} (hc : clsA[ci]? = some (C, T, N)) (hi : i = (j : Int)) (hj : j < N) (hin : ∀ w ∈ u_ws C T N, w ∈ Ts) (hlk : Cond.fieldLink own index (T j).1 (T j).2.1 (T j).2.2.1 ∈ Ts) (hdg : decode cc pc = .ok (.getfield index, 3)) (hs : Sd X (pc + 3) Γ (sty (ft (10 + ci) j) :: τ) k) : Sd X pc Γ ((10 + ci) :: τ) (o_get i k) := by
  subst hi
  intro lo st h cn sn H locs ls hk hH hL hS hl h1 h2
  obtain ⟨a, st, rfl, v1, hS⟩ := hS.c1
  obtain ⟨hne, hk⟩ := hk
  have hka : Kd h a = some (10 + ci) := (vt_obj (by omega) v1).resolve_left hne
  have hci : ci < 11 := (List.getElem?_eq_some_iff.mp hc).1
  obtain ⟨⟨cell, q1, q2, q3, q4⟩, hvt⟩ := hH.obj hci hka hc
  have hp := hH.pos hka
  have kk := hs lo (Me h a j :: st) h cn sn H locs ls hk hH hL ⟨vt_sty (hvt j hj), hS⟩ hl h1 h2
  obtain ⟨p, l, e, R, s, m, args, below, meth, c, Q, G, nL⟩ := X
  obtain ⟨hx, hb, hml, hown, hts, hK, hlocks⟩ := hC
  obtain ⟨hSl, hfc, kC, hkC, hkind⟩ := hK.1.1 ci _ hc
  obtain ⟨cf, kf, fi, f, hfi, hsl⟩ := hSl j hj
  show W p l e R s m args below meth c H locs cn sn Q (F0 m pc ls (ev G (10 + ci) a :: es G τ st))
  rw [ev_obj G (by omega), if_neg (by omega)]
  refine W.getf hx hb hown (hts _ hlk) hfi (u_facts hfc hkC (u_lays hts hin hj) hfi).1 q1 (by rw [q3]; exact fun h => by cases h) (v := ev G (ft (10 + ci) j) (Me h a j)) (by rw [hsl]; exact q4 j hj) rfl rfl hdg ?_
  have kk : W p l e R s m args below meth c H locs cn sn Q (F0 m (pc + 3) ls (ev G (sty (ft (10 + ci) j)) (Me h a j) :: es G τ st)) := kk
  rw [ev_sty] at kk
  exact kk
theorem sd_getN (hC : CF X cc own Ts) {ci j index : Nat} {C host : String} {T : u_T} {N : Nat} {i : Int} (hc : clsA[ci]? = some (C, T, N)) (hi : i = (j : Int)) (hj : j < N) (hin : ∀ w ∈ u_ws C T N, w ∈ Ts) (hlk : (own, index, (T j).1, (T j).2.1, (T j).2.2.1, host) ∈ nestF) (hdg : decode cc pc = .ok (.getfield index, 3)) (hs : Sd X (pc + 3) Γ (sty (ft (10 + ci) j) :: τ) k) : Sd X pc Γ ((10 + ci) :: τ) (o_get i k) := by
  subst hi
  intro lo st h cn sn H locs ls hk hH hL hS hl h1 h2
  obtain ⟨a, st, rfl, v1, hS⟩ := hS.c1
  obtain ⟨hne, hk⟩ := hk
  have hka : Kd h a = some (10 + ci) := (vt_obj (by omega) v1).resolve_left hne
  have hci : ci < 11 := (List.getElem?_eq_some_iff.mp hc).1
  obtain ⟨⟨cell, q1, q2, q3, q4⟩, hvt⟩ := hH.obj hci hka hc
  have hp := hH.pos hka
  have kk := hs lo (Me h a j :: st) h cn sn H locs ls hk hH hL ⟨vt_sty (hvt j hj), hS⟩ hl h1 h2
  obtain ⟨p, l, e, R, s, m, args, below, meth, c, Q, G, nL⟩ := X
  obtain ⟨hx, hb, hml, hown, hts, hK, hlocks⟩ := hC
  obtain ⟨hSl, hfc, kC, hkC, hkind⟩ := hK.1.1 ci _ hc
  obtain ⟨cf, kf, fi, f, hfi, hsl⟩ := hSl j hj
  show W p l e R s m args below meth c H locs cn sn Q (F0 m pc ls (ev G (10 + ci) a :: es G τ st))
  rw [ev_obj G (by omega), if_neg (by omega)]
  refine va_Wgetf hx hb hown (va_Nw.use rfl (hK.2.2.1 _ hlk)) hfi (u_facts hfc hkC (u_lays hts hin hj) hfi).1 q1 (by rw [q3]; exact fun h => by cases h) (v := ev G (ft (10 + ci) j) (Me h a j)) (by rw [hsl]; exact q4 j hj) rfl rfl hdg ?_
  have kk : W p l e R s m args below meth c H locs cn sn Q (F0 m (pc + 3) ls (ev G (sty (ft (10 + ci) j)) (Me h a j) :: es G τ st)) := kk
  rw [ev_sty] at kk
  exact kk
end SD4

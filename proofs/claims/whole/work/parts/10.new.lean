/-! ===== soundness of new ===== -/
/-- an element of an array of references, not null -/
def o_asta (k : tK) : tK := fun l st h c n => match st with
  | v :: i :: a :: r => a ≠ -1 ∧ v ≠ -1 ∧ (0 ≤ i ∧ i < Ln h a) ∧ k l r (Up h a i v) c n
  | _ => False
theorem ev_dfl (G : GT) {ty : FieldType} {t : Nat} (hc : cty ty t = true) : defaultValue ty = ev G t (dfl t) := by
  cases ty with
  | int =>
    have : t = 0 := by simpa [cty] using hc
    subst this
    rfl
  | long =>
    have : t = 1 := by simpa [cty] using hc
    subst this
    rfl
  | byte =>
    have : t = 2 := by simpa [cty] using hc
    subst this
    rfl
  | boolean =>
    have : t = 3 := by simpa [cty] using hc
    subst this
    rfl
  | object C =>
    have h7 : 7 ≤ t := Nat.le_of_ble_eq_true hc
    rw [ev_obj G h7]
    have : dfl t = -1 := by
      unfold dfl
      split <;> first | (exfalso; omega) | rfl
    rw [this]
    rfl
  | array C =>
    have h7 : 7 ≤ t := Nat.le_of_ble_eq_true hc
    rw [ev_obj G h7]
    have : dfl t = -1 := by
      unfold dfl
      split <;> first | (exfalso; omega) | rfl
    rw [this]
    rfl
  | _ => cases hc
theorem vt_dfl (h : tH) {ty : FieldType} {t : Nat} (hc : cty ty t = true) : vt h t (dfl t) := by
  cases ty with
  | int =>
    have : t = 0 := by simpa [cty] using hc
    subst this
    exact inI_0
  | long =>
    have : t = 1 := by simpa [cty] using hc
    subst this
    exact ⟨by decide, by decide⟩
  | byte =>
    have : t = 2 := by simpa [cty] using hc
    subst this
    exact ⟨by decide, by decide⟩
  | boolean =>
    have : t = 3 := by simpa [cty] using hc
    subst this
    exact Or.inl rfl
  | object C =>
    have h7 : 7 ≤ t := Nat.le_of_ble_eq_true hc
    unfold vt
    split <;> first | (exfalso; omega) | exact Or.inl (by unfold dfl; split <;> first | (exfalso; omega) | rfl)
  | array C =>
    have h7 : 7 ≤ t := Nat.le_of_ble_eq_true hc
    unfold vt
    split <;> first | (exfalso; omega) | exact Or.inl (by unfold dfl; split <;> first | (exfalso; omega) | rfl)
  | _ => cases hc
theorem RH.lt {G : GT} {h : tH} {H : Heap} (r : RH G h H) {a : Int} {κ : Nat} (hk : Kd h a = some κ) : a < (Nx h : Int) := (r.2.2.2 a κ hk).1.2.1
theorem hLe_Nw {G : GT} {h : tH} {H : Heap} (r : RH G h H) {κ : Nat} {n : Int} {f : Int → Int} : hLe h (Nw h κ n f) := by
  intro a κ' hk
  have := r.lt hk
  rw [Kd_Nw, if_neg (by omega)]
  exact hk
/-- one new cell -/
theorem RH.new {G : GT} {h : tH} {H H' : Heap} (r : RH G h H) {κ : Nat} {n : Int} {f : Int → Int} (hκ : 10 ≤ κ) (hz : H'.size = H.size + 1) (ho : ∀ q : Nat, q < H.size → H'[q]? = H[q]?) (hc : cR G (Nw h κ n f) H' (Nx h) κ) (ht : cT (Nw h κ n f) (Nx h) κ) : RH G (Nw h κ n f) H' := by
  refine ⟨by rw [Nx_Nw, hz, r.1], by rw [Nx_Nw]; have := r.2.1; omega, fun q hq => ?_, fun b κ' hb => ?_⟩
  · rw [ho q (by have := r.2.1; have := r.1; omega)]
    exact r.2.2.1 q hq
  · rw [Kd_Nw] at hb
    by_cases e : b = (Nx h : Int)
    · subst e
      rw [if_pos rfl] at hb
      cases hb
      exact ⟨⟨by have := r.2.1; omega, by rw [Nx_Nw]; omega, hκ⟩, hc, ht⟩
    · rw [if_neg e] at hb
      obtain ⟨g1, g2, g3⟩ := r.2.2.2 b κ' hb
      have hle := hLe_Nw (κ := κ) (n := n) (f := f) r
      have hme : ∀ j : Int, Me (Nw h κ n f) b j = Me h b j := fun j => by rw [Me_Nw, if_neg e]
      have hln : Ln (Nw h κ n f) b = Ln h b := by rw [Ln_Nw, if_neg e]
      have hbl : b.toNat < H.size := by
        have := r.1
        omega
      refine ⟨⟨g1.1, by rw [Nx_Nw]; omega, g1.2.2⟩, ?_, ?_⟩
      · unfold cR at g2 ⊢
        split
        · next hlt =>
          rw [if_pos hlt] at g2
          obtain ⟨r', e1, e2⟩ := g2
          refine ⟨r', e1, ?_⟩
          simp only [hme]
          exact e2.kept (ho _ hbl)
        · next hlt =>
          rw [if_neg hlt] at g2
          simp only [hme, hln]
          rw [ho _ hbl]
          exact g2
      · unfold cT at g3 ⊢
        split
        · next hlt =>
          rw [if_pos hlt] at g3
          intro j hj
          rw [hme]
          exact (g3 j hj).mono hle
        · next hlt =>
          rw [if_neg hlt] at g3
          rw [hln]
          refine ⟨g3.1, fun j h1 h2 => ?_⟩
          rw [hme]
          exact (g3.2 j h1 h2).mono hle
/-- a new array -/
theorem RH.newA {G : GT} {h : tH} {H H' : Heap} (r : RH G h H) {e : Nat} {n : Int} {ty : FieldType} (hc : cty ty e = true) (hn : 0 ≤ n ∧ n ≤ 100000) (hz : H'.size = H.size + 1) (ho : ∀ q : Nat, q < H.size → H'[q]? = H[q]?) (hcell : H'[H.size]? = some (arrV (gA G (100 + e)) n.toNat (fun _ => defaultValue ty))) : RH G (Nw h (100 + e) n (fun _ => dfl e)) H' := by
  refine r.new (by omega) hz ho ?_ ?_
  · unfold cR
    rw [if_neg (by omega), show 100 + e - 100 = e by omega]
    rw [show ((Nx h : Int)).toNat = H.size by rw [r.1]; omega, hcell, Ln_Nw, if_pos rfl, ev_dfl G hc]
    congr 2
    funext j
    rw [Me_Nw, if_pos rfl]
  · unfold cT
    rw [if_neg (by omega), show 100 + e - 100 = e by omega, Ln_Nw, if_pos rfl]
    refine ⟨hn, fun j _ _ => ?_⟩
    rw [Me_Nw, if_pos rfl]
    exact vt_dfl _ hc
section SD6
variable {X : CX} {pc : Nat} {Γ Γ' : List (Nat × Nat)} {τ : List Nat} {k kt kf : tK} {cc : ByteArray} {own : String} {Ts : List Cond}
theorem sd_new (hC : CF X cc own Ts) {ci index mc ms : Nat} {C : String} {T : u_T} {N : Nat} (ty0 : Nat → FieldType) (hty : ∀ k, k < N → parseFieldDescriptor (T k).2.2.1 = some (ty0 k)) (hct : ∀ k, k < N → cty (ty0 k) (ft (10 + ci) k) = true) (hc : clsA[ci]? = some (C, T, N)) (hin : ∀ w ∈ u_ws C T N, w ∈ Ts) (hcl : Cond.classLink own index C ∈ Ts) (hins : Cond.instantiable C N ∈ Ts) (hini : Cond.initialized C ∈ Ts) (hmc : (xR X).cells = mc) (hms : (xR X).slots = ms) (hdg : decode cc pc = .ok (.new index, 3)) (hs : Sd X (pc + 3) Γ ((10 + ci) :: τ) k) : Sd X pc Γ τ (o_new (10 + ci) N (fun j => dfl (ft (10 + ci) j.toNat)) mc ms k) := by
  intro lo st h cn sn H locs ls hk hH hL hS hl h1 h2
  obtain ⟨⟨hr1, hr2⟩, hk⟩ := hk
  have hci : ci < 11 := (List.getElem?_eq_some_iff.mp hc).1
  have hle := hLe_Nw (κ := 10 + ci) (n := 0) (f := fun j => dfl (ft (10 + ci) j.toNat)) hH
  have kk : ∀ H' : Heap, RH (xG X) (Nw h (10 + ci) 0 (fun j => dfl (ft (10 + ci) j.toNat))) H' → WX X H' locs (cn + 1) (sn + N) (F0 (xm X) (pc + 3) ls (es (xG X) ((10 + ci) :: τ) ((Nx h : Int) :: st))) := fun H' hH' =>
    hs lo ((Nx h : Int) :: st) _ (cn + 1) (sn + N) H' locs ls hk hH' (hL.mono hle) ⟨by
      unfold vt
      split <;> first | (exfalso; omega) | exact Or.inr (by rw [Kd_Nw, if_pos rfl]), hS.mono hle⟩ hl (by omega) (by omega)
  obtain ⟨p, l, ee, R, s, m, args, below, meth, c, Q, G, nL⟩ := X
  obtain ⟨hx, hb, hml, hown, hts, hK, hlocks⟩ := hC
  have hKn := hK.1.1 ci _ hc
  refine W.newcK hx hb hown (hts _ hcl) (hts _ hins) (hts _ hini) rfl hdg (by rw [show R.cells = mc from hmc]; exact hr1) (by rw [show R.slots = ms from hms]; exact hr2) hKn.2.1 rfl fun H1 kC hkC e1 z1 o1 => ?_
  have hb1 := u_born ty0 hts hin hKn hkC e1 hty
  have hz := hH.1
  have kk := kk H1 (hH.new (by omega) z1 o1 ?_ ?_)
  · show W p l ee R s m args below meth c H1 locs (cn + 1) (sn + N) Q (F0 m (pc + 3) ls (.ref H.size :: es G τ st))
    have kk : W p l ee R s m args below meth c H1 locs (cn + 1) (sn + N) Q (F0 m (pc + 3) ls (ev G (10 + ci) (Nx h : Int) :: es G τ st)) := kk
    rw [ev_obj G (by omega), if_neg (by omega), show ((Nx h : Int)).toNat = H.size by rw [hz]; omega] at kk
    exact kk
  · unfold cR
    rw [if_pos (by omega), show 10 + ci - 10 = ci by omega]
    refine ⟨_, hc, ?_⟩
    rw [show ((Nx h : Int)).toNat = H.size by rw [hz]; omega]
    refine hb1.to fun j hj => ?_
    rw [Me_Nw, if_pos rfl, ev_dfl G (hct j hj)]
    rfl
  · unfold cT
    rw [if_pos (by omega)]
    intro j hj
    rw [ftN_ok ci hci _ hc] at hj
    rw [Me_Nw, if_pos rfl]
    exact vt_dfl _ (hct j hj)
theorem newa_fin {e : Nat} {ty : FieldType} (hct : cty ty e = true) {lo st : List Int} {h : tH} {cn sn : Nat} {H : Heap} {locs : List Loc} {ls : Array Slot} {z : Int} {len : Nat} (hs : Sd X (pc + len) Γ ((100 + e) :: τ) k) (hz : 0 ≤ z ∧ z ≤ 100000) (hk : k lo ((Nx h : Int) :: st) (Nw h (100 + e) z (fun _ => dfl e)) (cn + 1) (sn + z.toNat)) (hH : RH (xG X) h H) (hL : RLo (xG X) Γ (xn X) lo h ls) (hS : RS h τ st) (hl : ∀ q ∈ locs, gB (xG X) ≤ q.base) (h1 : cn + 1 ≤ (xR X).cells) (h2 : sn + z.toNat ≤ (xR X).slots)
    (cA : ClassId) (hcA : cA = gA (xG X) (100 + e)) : WX X (H.push { cls := cA, slots := Array.replicate z.toNat (defaultValue ty), vm := .none }) locs (cn + 1) (sn + z.toNat) (F0 (xm X) (pc + len) ls (.ref H.size :: es (xG X) τ st)) := by
  subst hcA
  have hle := hLe_Nw (κ := 100 + e) (n := z) (f := fun _ => dfl e) hH
  have hsz := hH.1
  have kk := hs lo ((Nx h : Int) :: st) _ (cn + 1) (sn + z.toNat) (H.push { cls := gA (xG X) (100 + e), slots := Array.replicate z.toNat (defaultValue ty), vm := .none }) locs ls hk (hH.newA hct hz (by rw [Array.size_push]) (fun q hq => by rw [Array.getElem?_push, if_neg (Nat.ne_of_lt hq)]) (by rw [Array.getElem?_push_size, ← arrV_new])) (hL.mono hle) ⟨by
      unfold vt
      split <;> first | (exfalso; omega) | exact Or.inr (by rw [Kd_Nw, if_pos rfl]), hS.mono hle⟩ hl h1 h2
  have kk : WX X (H.push { cls := gA (xG X) (100 + e), slots := Array.replicate z.toNat (defaultValue ty), vm := .none }) locs (cn + 1) (sn + z.toNat) (F0 (xm X) (pc + len) ls (ev (xG X) (100 + e) (Nx h : Int) :: es (xG X) τ st)) := kk
  rw [ev_obj (xG X) (by omega), if_neg (by omega), show ((Nx h : Int)).toNat = H.size by rw [hsz]; omega] at kk
  exact kk
theorem sd_newa (hC : CF X cc own Ts) {atype : ArrayType} {e mc ms : Nat} (hq : (100 + e, newarray.typeOf atype) ∈ arrK) (hobj : ∀ C, newarray.typeOf atype ≠ .object C) (hct : cty (newarray.typeOf atype) e = true) (hcb : componentBytes (newarray.typeOf atype) ≤ 8) (hw : Cond.arrayClass (newarray.typeOf atype) ∈ Ts) (hmc : (xR X).cells = mc) (hms : (xR X).slots = ms) (hdg : decode cc pc = .ok (.newarray atype, 2)) (hs : Sd X (pc + 2) Γ ((100 + e) :: τ) k) : Sd X pc Γ (0 :: τ) (o_newa (100 + e) (dfl e) mc ms k) := by
  intro lo st h cn sn H locs ls hk hH hL hS hl h1 h2
  obtain ⟨z, st, rfl, v1, hS⟩ := hS.c1
  obtain ⟨hz, ⟨hr1, hr2⟩, hk⟩ := hk
  have kk := newa_fin hct hs hz hk hH hL hS hl (by omega) (by omega)
  obtain ⟨p, l, ee, R, s, m, args, below, meth, c, Q, G, nL⟩ := X
  obtain ⟨hx, hb, hml, hown, hts, hK, hlocks⟩ := hC
  have hcl := clampI hz.1 (by omega : z ≤ 2147483647)
  have hmul : z.toNat * componentBytes (newarray.typeOf atype) ≤ 100000 * 8 := Nat.mul_le_mul (by omega) hcb
  refine W.newa hx hb (hts _ hw) rfl hdg rfl ?_ (by rw [hcl]; omega) (by rw [show R.cells = mc from hmc]; exact hr1) (by rw [hcl, show R.slots = ms from hms]; exact hr2) fun cA kA comp f1 f2 f3 => ?_
  · rw [of_0, of_lt v1 inI_0]
    omega
  · rw [hcl]
    refine kk cA ?_
    have hra := (hK.2.1 _ hq).2
    have hra : s.vm.findClass ("[" ++ (newarray.typeOf atype).toString) = some (gA G (100 + e)) := by
      unfold va_RA at hra
      split at hra
      · next C hC => exact absurd hC (hobj C)
      · exact hra
    exact Option.some.inj (f1.symm.trans hra)
theorem sd_anew (hC : CF X cc own Ts) {C : String} {e mc ms index : Nat} (hq : (100 + e, FieldType.object C) ∈ arrK) (hct : cty (.object C) e = true) (hC3 : C ∈ [RX2, RX6, RX7]) (hcl0 : Cond.classLink own index C ∈ Ts) (hmc : (xR X).cells = mc) (hms : (xR X).slots = ms) (hdg : decode cc pc = .ok (.anewarray index, 3)) (hs : Sd X (pc + 3) Γ ((100 + e) :: τ) k) : Sd X pc Γ (0 :: τ) (o_newa (100 + e) (dfl e) mc ms k) := by
  intro lo st h cn sn H locs ls hk hH hL hS hl h1 h2
  obtain ⟨z, st, rfl, v1, hS⟩ := hS.c1
  obtain ⟨hz, ⟨hr1, hr2⟩, hk⟩ := hk
  have kk := newa_fin hct hs hz hk hH hL hS hl (by omega) (by omega)
  obtain ⟨p, l, ee, R, s, m, args, below, meth, c, Q, G, nL⟩ := X
  obtain ⟨hx, hb, hml, hown, hts, hK, hlocks⟩ := hC
  have hcl := clampI hz.1 (by omega : z ≤ 2147483647)
  refine W.anew hx hb hown (hts _ hcl0) (va_AO.use (hK.2.2.2.2.1 C hC3)) rfl hdg rfl ?_ (by rw [hcl]; omega) (by rw [show R.cells = mc from hmc]; exact hr1) (by rw [hcl, show R.slots = ms from hms]; exact hr2) fun cA kA comp f1 f2 f3 f4 => ?_
  · rw [of_0, of_lt v1 inI_0]
    omega
  · rw [hcl]
    refine kk cA ?_
    obtain ⟨kA', comp', -, -, -, hra⟩ := (hK.2.1 _ hq).2
    exact Option.some.inj (f1.symm.trans hra)
theorem sd_aastore (hC : CF X cc own Ts) {ci : Nat} {q : vw_C} (hq : (100 + (10 + ci), FieldType.object q.1) ∈ arrK) (hc : clsA[ci]? = some q) (hdg : decode cc pc = .ok (.aastore, 1)) (hs : Sd X (pc + 1) Γ τ k) : Sd X pc Γ ((10 + ci) :: 0 :: (100 + (10 + ci)) :: τ) (o_asta k) := by
  intro lo st h cn sn H locs ls hk hH hL hS hl h1 h2
  obtain ⟨v, i, a, st, rfl, v0, v1, v2, hS⟩ := hS.c3
  obtain ⟨hne, hnv, hi, hk⟩ := hk
  have hci : ci < 11 := (List.getElem?_eq_some_iff.mp hc).1
  have hka : Kd h a = some (100 + (10 + ci)) := (vt_obj (by omega) v2).resolve_left hne
  have hkv : Kd h v = some (10 + ci) := (vt_obj (by omega) v0).resolve_left hnv
  obtain ⟨q1, q2, q3⟩ := hH.arr hka
  obtain ⟨⟨cv, c1, c2, c3, c4⟩, -⟩ := hH.obj hci hkv hc
  have hp := hH.pos hka
  have hpv := hH.pos hkv
  have kk := fun H' => ast_step (H' := H') (v := v) hs hk hH hL hS hl h1 h2 hka hi v0
  obtain ⟨p, l, ee, R, s, m, args, below, meth, c, Q, G, nL⟩ := X
  obtain ⟨hx, hb, hml, hown, hts, hK, hlocks⟩ := hC
  have hcls := (hK.1.1 ci q hc).2
  obtain ⟨kA, comp, k1, k2, k3, -⟩ := (hK.2.1 _ hq).2
  have hcomp : comp = (gD G).1 ci := Option.some.inj (k3.symm.trans hcls.1)
  subst hcomp
  obtain ⟨kC, hkC, -⟩ := hcls.2
  show W p l ee R s m args below meth c H locs cn sn Q (F0 m pc ls (ev G (10 + ci) v :: ev G 0 i :: ev G (100 + (10 + ci)) a :: es G τ st))
  have evv : ev G (10 + ci) v = .ref v.toNat := by rw [ev_obj G (by omega), if_neg (by omega)]
  have eva : ev G (100 + (10 + ci)) a = .ref a.toNat := by rw [ev_obj G (by omega), if_neg (by omega)]
  rw [evv, eva]
  refine W.aast hx hb q1 (fun q z => by cases z) (fun z => by cases z) k1 k2 rfl hkC ⟨?_, ?_⟩ c1 (fun q z => by rw [c3] at z; cases z) (by rw [c2]; exact hkC) (by rw [c2]; exact va_assign hcls) rfl rfl hdg fun H' e1 e2 e3 => kk H' ?_ e2 e3
  · rw [of_0, of_lt v1 inI_0]
    omega
  · rw [arrV_size, clampI hi.1 (by omega)]
    omega
  · rw [show ev (xG (p, l, ee, R, s, m, args, below, meth, c, Q, G, nL)) (10 + ci) v = .ref v.toNat from evv]
    exact e1
end SD6

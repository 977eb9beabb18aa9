/-! ===== soundness of the rows that touch no heap ===== -/
theorem ev_cat (G : GT) (t : Nat) (x : Int) : (ev G t x).category = if t = 1 then 2 else 1 := by
  unfold ev
  split <;> first | rfl | (split <;> simp_all [Value.category])
theorem ev_ref (G : GT) {t : Nat} (ht : 4 ≤ t) (x : Int) : ev G t x = .null ∨ ∃ r : Nat, ev G t x = .ref r := by
  unfold ev
  split <;> first | (exfalso; omega) | exact Or.inr ⟨_, rfl⟩ | (split <;> first | exact Or.inl rfl | exact Or.inr ⟨_, rfl⟩)
theorem RLo.at {G : GT} {Γ : List (Nat × Nat)} {nL : Nat} {lo : List Int} {h : tH} {ls : Array Slot} (r : RLo G Γ nL lo h ls) {i t : Nat} (hq : (i, t) ∈ Γ) : ls[i]? = some (.val (ev G t (lo.getD i 0))) ∧ vt h t (lo.getD i 0) := ⟨r.2.1.2.2 _ (List.mem_map.mpr ⟨(i, t), hq, rfl⟩), r.2.2.1 _ hq⟩
theorem getD_set_eq {lo : List Int} {i : Nat} {x : Int} (h : i < lo.length) : (lo.set i x).getD i 0 = x := by simp [h]
theorem getD_set_ne {lo : List Int} {i j : Nat} {x : Int} (h : j ≠ i) : (lo.set i x).getD j 0 = lo.getD j 0 := by
  rw [List.getD_eq_getElem?_getD, List.getD_eq_getElem?_getD, List.getElem?_set_ne (Ne.symm h)]
/-- the locals' types behind a store of one word -/
def g1 (Γ Γ' : List (Nat × Nat)) (i t : Nat) : Bool := Γ'.all fun q => q == (i, t) || (Γ.contains q && !(q.1 == i) && !(q.1 + 1 == i && q.2 == 1))
def g2 (Γ Γ' : List (Nat × Nat)) (i t : Nat) : Bool := Γ'.all fun q => q == (i, t) || (Γ.contains q && !(q.1 == i) && !(q.1 == i + 1) && !(q.1 + 1 == i && q.2 == 1))
theorem RLo.st1 {G : GT} {Γ Γ' : List (Nat × Nat)} {nL : Nat} {lo : List Int} {h : tH} {ls ls' : Array Slot} {i t : Nat} {x : Int} (r : RLo G Γ nL lo h ls) (hi : i < nL) (hx : vt h t x) (hg : g1 Γ Γ' i t = true)
    (hl : lv_has ls' nL ((i, ev G t x) :: (Γ.map fun q => (q.1, ev G q.2 (lo.getD q.1 0))).filter (fun q => !(q.1 == i) && !(q.1 + 1 == i && q.2.category == 2)))) : RLo G Γ' nL (lo.set i x) h ls' := by
  have hi' : i < lo.length := by rw [r.1]; exact hi
  have hg' := List.all_eq_true.mp hg
  have key : ∀ q ∈ Γ', q = (i, t) ∨ (q ∈ Γ ∧ q.1 ≠ i ∧ ¬ (q.1 + 1 = i ∧ q.2 = 1)) := by
    intro q hq
    have := hg' q hq
    simp only [Bool.or_eq_true, beq_iff_eq, Bool.and_eq_true, List.contains_iff_mem, Bool.not_eq_true', beq_eq_false_iff_ne, ne_eq, Bool.and_eq_false_iff] at this
    rcases this with h1 | ⟨⟨h1, h2⟩, h3⟩
    · exact Or.inl h1
    · exact Or.inr ⟨h1, h2, fun z => h3.elim (fun w => w z.1) (fun w => w z.2)⟩
  refine ⟨by rw [List.length_set]; exact r.1, ⟨hl.1, hl.2.1, fun z hz => ?_⟩, fun q hq => ?_, r.2.2.2⟩
  · obtain ⟨q, hq, rfl⟩ := List.mem_map.mp hz
    rcases key q hq with rfl | ⟨h1, h2, h3⟩
    · dsimp only
      rw [getD_set_eq hi']
      exact hl.2.2 _ List.mem_cons_self
    · dsimp only
      rw [getD_set_ne h2]
      refine hl.2.2 (q.1, ev G q.2 (lo.getD q.1 0)) (List.mem_cons_of_mem _ (List.mem_filter.mpr ⟨List.mem_map.mpr ⟨q, h1, rfl⟩, ?_⟩))
      simp only [Bool.and_eq_true, Bool.not_eq_true', beq_eq_false_iff_ne, ne_eq, Bool.and_eq_false_iff]
      refine ⟨h2, ?_⟩
      by_cases z : q.1 + 1 = i
      · refine Or.inr ?_
        rw [ev_cat, if_neg (fun w => h3 ⟨z, w⟩)]
        decide
      · exact Or.inl z
  · rcases key q hq with rfl | ⟨h1, h2, -⟩
    · dsimp only
      rw [getD_set_eq hi']
      exact hx
    · rw [getD_set_ne h2]
      exact r.2.2.1 q h1
theorem RLo.st2 {G : GT} {Γ Γ' : List (Nat × Nat)} {nL : Nat} {lo : List Int} {h : tH} {ls ls' : Array Slot} {i t : Nat} {x : Int} (r : RLo G Γ nL lo h ls) (hi : i < nL) (hx : vt h t x) (hg : g2 Γ Γ' i t = true)
    (hl : lv_has ls' nL ((i, ev G t x) :: (Γ.map fun q => (q.1, ev G q.2 (lo.getD q.1 0))).filter (fun q => !(q.1 == i) && (!(q.1 == i + 1) && !(q.1 + 1 == i && q.2.category == 2))))) : RLo G Γ' nL (lo.set i x) h ls' := by
  have hi' : i < lo.length := by rw [r.1]; exact hi
  have hg' := List.all_eq_true.mp hg
  have key : ∀ q ∈ Γ', q = (i, t) ∨ (q ∈ Γ ∧ q.1 ≠ i ∧ q.1 ≠ i + 1 ∧ ¬ (q.1 + 1 = i ∧ q.2 = 1)) := by
    intro q hq
    have := hg' q hq
    simp only [Bool.or_eq_true, beq_iff_eq, Bool.and_eq_true, List.contains_iff_mem, Bool.not_eq_true', beq_eq_false_iff_ne, ne_eq, Bool.and_eq_false_iff] at this
    rcases this with h1 | ⟨⟨⟨h1, h2⟩, h4⟩, h3⟩
    · exact Or.inl h1
    · exact Or.inr ⟨h1, h2, h4, fun z => h3.elim (fun w => w z.1) (fun w => w z.2)⟩
  refine ⟨by rw [List.length_set]; exact r.1, ⟨hl.1, hl.2.1, fun z hz => ?_⟩, fun q hq => ?_, r.2.2.2⟩
  · obtain ⟨q, hq, rfl⟩ := List.mem_map.mp hz
    rcases key q hq with rfl | ⟨h1, h2, h4, h3⟩
    · dsimp only
      rw [getD_set_eq hi']
      exact hl.2.2 _ List.mem_cons_self
    · dsimp only
      rw [getD_set_ne h2]
      refine hl.2.2 (q.1, ev G q.2 (lo.getD q.1 0)) (List.mem_cons_of_mem _ (List.mem_filter.mpr ⟨List.mem_map.mpr ⟨q, h1, rfl⟩, ?_⟩))
      simp only [Bool.and_eq_true, Bool.not_eq_true', beq_eq_false_iff_ne, ne_eq, Bool.and_eq_false_iff]
      refine ⟨h2, h4, ?_⟩
      by_cases z : q.1 + 1 = i
      · refine Or.inr ?_
        rw [ev_cat, if_neg (fun w => h3 ⟨z, w⟩)]
        decide
      · exact Or.inl z
  · rcases key q hq with rfl | ⟨h1, h2, -, -⟩
    · dsimp only
      rw [getD_set_eq hi']
      exact hx
    · rw [getD_set_ne h2]
      exact r.2.2.1 q h1
section SD2
variable {X : CX} {pc : Nat} {Γ Γ' : List (Nat × Nat)} {τ : List Nat} {k kt kf : tK} {cc : ByteArray} {own : String} {Ts : List Cond}
theorem sd_load {i t len : Nat} (hq : (i, t) ∈ Γ) (row : ∀ (H : Heap) (locs : List Loc) (cn sn : Nat) (ls : Array Slot) (rest : List Value) (v : Int), ls[i]? = some (.val (ev (xG X) t v)) → WX X H locs cn sn (F0 (xm X) (pc + len) ls (ev (xG X) t v :: rest)) → WX X H locs cn sn (F0 (xm X) pc ls rest)) (hs : Sd X (pc + len) Γ (t :: τ) k) : Sd X pc Γ τ (o_load i k) := by
  intro lo st h cn sn H locs ls hk hH hL hS hl h1 h2
  obtain ⟨a1, a2⟩ := hL.at hq
  exact row H locs cn sn ls _ _ a1 (hs lo (lo.getD i 0 :: st) h cn sn H locs ls hk hH hL ⟨a2, hS⟩ hl h1 h2)
theorem sd_iload_n (hC : CF X cc own Ts) {j : Fin 4} {i : Nat} (hdg : decode cc pc = .ok (.iload_n j, 1)) (hi : (j : Nat) = i) (hq : (i, 0) ∈ Γ) (hs : Sd X (pc + 1) Γ (0 :: τ) k) : Sd X pc Γ τ (o_load i k) := by
  refine sd_load (len := 1) hq ?_ hs
  intro H locs cn sn ls rest v hv kk
  obtain ⟨p, l, e, R, s, m, args, below, meth, c, Q, G, nL⟩ := X
  obtain ⟨hx, hb, -⟩ := hC
  exact lv_iload_n hx hb hdg hi hv kk
theorem sd_iload (hC : CF X cc own Ts) {i : Nat} (hdg : decode cc pc = .ok (.iload i, 2)) (hq : (i, 0) ∈ Γ) (hs : Sd X (pc + 2) Γ (0 :: τ) k) : Sd X pc Γ τ (o_load i k) := by
  refine sd_load (len := 2) hq ?_ hs
  intro H locs cn sn ls rest v hv kk
  obtain ⟨p, l, e, R, s, m, args, below, meth, c, Q, G, nL⟩ := X
  obtain ⟨hx, hb, -⟩ := hC
  exact lv_iload hx hb hdg hv kk
theorem sd_lload_n (hC : CF X cc own Ts) {j : Fin 4} {i : Nat} (hdg : decode cc pc = .ok (.lload_n j, 1)) (hi : (j : Nat) = i) (hq : (i, 1) ∈ Γ) (hs : Sd X (pc + 1) Γ (1 :: τ) k) : Sd X pc Γ τ (o_load i k) := by
  refine sd_load (len := 1) hq ?_ hs
  intro H locs cn sn ls rest v hv kk
  obtain ⟨p, l, e, R, s, m, args, below, meth, c, Q, G, nL⟩ := X
  obtain ⟨hx, hb, -⟩ := hC
  exact lv_lload_n hx hb hdg hi hv kk
theorem sd_lload (hC : CF X cc own Ts) {i : Nat} (hdg : decode cc pc = .ok (.lload i, 2)) (hq : (i, 1) ∈ Γ) (hs : Sd X (pc + 2) Γ (1 :: τ) k) : Sd X pc Γ τ (o_load i k) := by
  refine sd_load (len := 2) hq ?_ hs
  intro H locs cn sn ls rest v hv kk
  obtain ⟨p, l, e, R, s, m, args, below, meth, c, Q, G, nL⟩ := X
  obtain ⟨hx, hb, -⟩ := hC
  exact lv_lload hx hb hdg hv kk
theorem sd_aload_n (hC : CF X cc own Ts) {j : Fin 4} {i : Nat} (t : Nat) (hdg : decode cc pc = .ok (.aload_n j, 1)) (hi : (j : Nat) = i) (ht : 4 ≤ t) (hq : (i, t) ∈ Γ) (hs : Sd X (pc + 1) Γ (t :: τ) k) : Sd X pc Γ τ (o_load i k) := by
  refine sd_load (len := 1) hq ?_ hs
  intro H locs cn sn ls rest v hv kk
  obtain ⟨p, l, e, R, s, m, args, below, meth, c, Q, G, nL⟩ := X
  obtain ⟨hx, hb, -⟩ := hC
  rcases ev_ref G ht v with z | ⟨r, z⟩ <;> (dsimp only [xG] at hv kk; rw [z] at hv kk)
  · exact lv_aload_nN hx hb hdg hi hv kk
  · exact lv_aload_n hx hb hdg hi hv kk
theorem sd_aload (hC : CF X cc own Ts) {i : Nat} (t : Nat) (hdg : decode cc pc = .ok (.aload i, 2)) (ht : 4 ≤ t) (hq : (i, t) ∈ Γ) (hs : Sd X (pc + 2) Γ (t :: τ) k) : Sd X pc Γ τ (o_load i k) := by
  refine sd_load (len := 2) hq ?_ hs
  intro H locs cn sn ls rest v hv kk
  obtain ⟨p, l, e, R, s, m, args, below, meth, c, Q, G, nL⟩ := X
  obtain ⟨hx, hb, -⟩ := hC
  rcases ev_ref G ht v with z | ⟨r, z⟩ <;> (dsimp only [xG] at hv kk; rw [z] at hv kk)
  · exact lv_aloadN hx hb hdg hv kk
  · exact lv_aload hx hb hdg hv kk
theorem sd_store1 {i t len : Nat} (hi : i < xn X) (hg : g1 Γ Γ' i t = true) (row : ∀ (H : Heap) (locs : List Loc) (cn sn : Nat) (ls : Array Slot) (rest : List Value) (v : Int) (lv : List (Nat × Value)), lv_has ls (xn X) lv → (∀ ls' : Array Slot, lv_has ls' (xn X) ((i, ev (xG X) t v) :: lv.filter (fun q => !(q.1 == i) && !(q.1 + 1 == i && q.2.category == 2))) → WX X H locs cn sn (F0 (xm X) (pc + len) ls' rest)) → WX X H locs cn sn (F0 (xm X) pc ls (ev (xG X) t v :: rest))) (hs : Sd X (pc + len) Γ' τ k) : Sd X pc Γ (t :: τ) (o_store i k) := by
  intro lo st h cn sn H locs ls hk hH hL hS hl h1 h2
  obtain ⟨x, st, rfl, hv, hS⟩ := hS.c1
  exact row H locs cn sn ls _ x _ hL.2.1 fun ls' hl' => hs (lo.set i x) st h cn sn H locs ls' hk hH (hL.st1 hi hv hg hl') hS hl h1 h2
theorem sd_store2 {i len : Nat} (hi : i + 1 < xn X) (hg : g2 Γ Γ' i 1 = true) (row : ∀ (H : Heap) (locs : List Loc) (cn sn : Nat) (ls : Array Slot) (rest : List Value) (v : Int) (lv : List (Nat × Value)), lv_has ls (xn X) lv → (∀ ls' : Array Slot, lv_has ls' (xn X) ((i, ev (xG X) 1 v) :: lv.filter (fun q => !(q.1 == i) && (!(q.1 == i + 1) && !(q.1 + 1 == i && q.2.category == 2)))) → WX X H locs cn sn (F0 (xm X) (pc + len) ls' rest)) → WX X H locs cn sn (F0 (xm X) pc ls (ev (xG X) 1 v :: rest))) (hs : Sd X (pc + len) Γ' τ k) : Sd X pc Γ (1 :: τ) (o_store i k) := by
  intro lo st h cn sn H locs ls hk hH hL hS hl h1 h2
  obtain ⟨x, st, rfl, hv, hS⟩ := hS.c1
  exact row H locs cn sn ls _ x _ hL.2.1 fun ls' hl' => hs (lo.set i x) st h cn sn H locs ls' hk hH (hL.st2 (by omega) hv hg hl') hS hl h1 h2
theorem sd_istore_n (hC : CF X cc own Ts) {j : Fin 4} {i : Nat} (hdg : decode cc pc = .ok (.istore_n j, 1)) (hi : (j : Nat) = i) (hn : i < xn X) (hg : g1 Γ Γ' i 0 = true) (hs : Sd X (pc + 1) Γ' τ k) : Sd X pc Γ (0 :: τ) (o_store i k) := by
  refine sd_store1 (len := 1) hn hg ?_ hs
  intro H locs cn sn ls rest v lv hv kk
  obtain ⟨p, l, e, R, s, m, args, below, meth, c, Q, G, nL⟩ := X
  obtain ⟨hx, hb, -⟩ := hC
  exact lv_istore_n hx hb hdg hi hv hn rfl kk
theorem sd_istore (hC : CF X cc own Ts) {i : Nat} (hdg : decode cc pc = .ok (.istore i, 2)) (hn : i < xn X) (hg : g1 Γ Γ' i 0 = true) (hs : Sd X (pc + 2) Γ' τ k) : Sd X pc Γ (0 :: τ) (o_store i k) := by
  refine sd_store1 (len := 2) hn hg ?_ hs
  intro H locs cn sn ls rest v lv hv kk
  obtain ⟨p, l, e, R, s, m, args, below, meth, c, Q, G, nL⟩ := X
  obtain ⟨hx, hb, -⟩ := hC
  exact lv_istore hx hb hdg hv hn rfl kk
theorem sd_astore_n (hC : CF X cc own Ts) {j : Fin 4} {i t : Nat} (hdg : decode cc pc = .ok (.astore_n j, 1)) (hi : (j : Nat) = i) (ht : 4 ≤ t) (hn : i < xn X) (hg : g1 Γ Γ' i t = true) (hs : Sd X (pc + 1) Γ' τ k) : Sd X pc Γ (t :: τ) (o_store i k) := by
  refine sd_store1 (len := 1) hn hg ?_ hs
  intro H locs cn sn ls rest v lv hv kk
  obtain ⟨p, l, e, R, s, m, args, below, meth, c, Q, G, nL⟩ := X
  obtain ⟨hx, hb, -⟩ := hC
  rcases ev_ref G ht v with z | ⟨r, z⟩ <;> (dsimp only [xG] at kk ⊢; rw [z] at kk ⊢)
  · exact lv_astore_nN hx hb hdg hi hv hn rfl kk
  · exact lv_astore_n hx hb hdg hi hv hn rfl kk
theorem sd_astore (hC : CF X cc own Ts) {i t : Nat} (hdg : decode cc pc = .ok (.astore i, 2)) (ht : 4 ≤ t) (hn : i < xn X) (hg : g1 Γ Γ' i t = true) (hs : Sd X (pc + 2) Γ' τ k) : Sd X pc Γ (t :: τ) (o_store i k) := by
  refine sd_store1 (len := 2) hn hg ?_ hs
  intro H locs cn sn ls rest v lv hv kk
  obtain ⟨p, l, e, R, s, m, args, below, meth, c, Q, G, nL⟩ := X
  obtain ⟨hx, hb, -⟩ := hC
  rcases ev_ref G ht v with z | ⟨r, z⟩ <;> (dsimp only [xG] at kk ⊢; rw [z] at kk ⊢)
  · exact lv_astoreN hx hb hdg hv hn rfl kk
  · exact lv_astore hx hb hdg hv hn rfl kk
theorem sd_lstore_n (hC : CF X cc own Ts) {j : Fin 4} {i : Nat} (hdg : decode cc pc = .ok (.lstore_n j, 1)) (hi : (j : Nat) = i) (hn : i + 1 < xn X) (hg : g2 Γ Γ' i 1 = true) (hs : Sd X (pc + 1) Γ' τ k) : Sd X pc Γ (1 :: τ) (o_store i k) := by
  refine sd_store2 (len := 1) hn hg ?_ hs
  intro H locs cn sn ls rest v lv hv kk
  obtain ⟨p, l, e, R, s, m, args, below, meth, c, Q, G, nL⟩ := X
  obtain ⟨hx, hb, -⟩ := hC
  exact lv_lstore_n hx hb hdg hi hv hn rfl kk
theorem sd_lstore (hC : CF X cc own Ts) {i : Nat} (hdg : decode cc pc = .ok (.lstore i, 2)) (hn : i + 1 < xn X) (hg : g2 Γ Γ' i 1 = true) (hs : Sd X (pc + 2) Γ' τ k) : Sd X pc Γ (1 :: τ) (o_store i k) := by
  refine sd_store2 (len := 2) hn hg ?_ hs
  intro H locs cn sn ls rest v lv hv kk
  obtain ⟨p, l, e, R, s, m, args, below, meth, c, Q, G, nL⟩ := X
  obtain ⟨hx, hb, -⟩ := hC
  exact lv_lstore hx hb hdg hv hn rfl kk
theorem sd_iinc (hC : CF X cc own Ts) {i : Nat} {d : Int} (hdg : decode cc pc = .ok (.iinc i d, 3)) (hq : (i, 0) ∈ Γ) (hn : i < xn X) (hg : g1 Γ Γ' i 0 = true) (hs : Sd X (pc + 3) Γ' τ k) : Sd X pc Γ τ (o_iinc i d k) := by
  intro lo st h cn sn H locs ls hk hH hL hS hl h1 h2
  obtain ⟨hk0, hk⟩ := hk
  obtain ⟨j, hj⟩ := List.getElem?_of_mem (List.mem_map.mpr ⟨(i, 0), hq, rfl⟩ : (i, ev (xG X) 0 (lo.getD i 0)) ∈ Γ.map fun q => (q.1, ev (xG X) q.2 (lo.getD q.1 0)))
  have key : ∀ ls' : Array Slot, lv_has ls' (xn X) ((i, ev (xG X) 0 (lo.getD i 0 + d)) :: (Γ.map fun q => (q.1, ev (xG X) q.2 (lo.getD q.1 0))).filter (fun q => !(q.1 == i) && !(q.1 + 1 == i && q.2.category == 2))) → WX X H locs cn sn (F0 (xm X) (pc + 3) ls' (es (xG X) τ st)) := fun ls' hl' => hs _ st h cn sn H locs ls' hk hH (hL.st1 (t := 0) hn hk0 hg hl') hS hl h1 h2
  obtain ⟨p, l, e, R, s, m, args, below, meth, c, Q, G, nL⟩ := X
  obtain ⟨hx, hb, -⟩ := hC
  exact lv_iinc hx hb hdg hL.2.1 hj (by rw [← Int32.ofInt_add]) hn rfl key
theorem sd_goto (hC : CF X cc own Ts) {off : Int} {tgt : Nat} (hdg : decode cc pc = .ok (.goto off, 3)) (ht : (pc : Int) + off = (tgt : Int)) (hs : Sd X tgt Γ τ k) : Sd X pc Γ τ k := by
  intro lo st h cn sn H locs ls hk hH hL hS hl h1 h2
  have kk := hs lo st h cn sn H locs ls hk hH hL hS hl h1 h2
  obtain ⟨p, l, e, R, s, m, args, below, meth, c, Q, G, nL⟩ := X
  obtain ⟨hx, hb, -⟩ := hC
  exact lv_goto hx hb hdg ht kk
theorem sd_dup (hC : CF X cc own Ts) {t : Nat} (ht : t ≠ 1) (hdg : decode cc pc = .ok (.dup, 1)) (hs : Sd X (pc + 1) Γ (t :: t :: τ) k) : Sd X pc Γ (t :: τ) (o_dup k) := by
  intro lo st h cn sn H locs ls hk hH hL hS hl h1 h2
  obtain ⟨x, st, rfl, hv, hS⟩ := hS.c1
  have kk := hs lo (x :: x :: st) h cn sn H locs ls hk hH hL ⟨hv, hv, hS⟩ hl h1 h2
  obtain ⟨p, l, e, R, s, m, args, below, meth, c, Q, G, nL⟩ := X
  obtain ⟨hx, hb, -⟩ := hC
  exact lv_dup hx hb hdg (by rw [ev_cat, if_neg ht]) kk
theorem sd_dup2 (hC : CF X cc own Ts) {t u : Nat} (ht : t ≠ 1) (hu : u ≠ 1) (hdg : decode cc pc = .ok (.dup2, 1)) (hs : Sd X (pc + 1) Γ (t :: u :: t :: u :: τ) k) : Sd X pc Γ (t :: u :: τ) (o_dup2 k) := by
  intro lo st h cn sn H locs ls hk hH hL hS hl h1 h2
  obtain ⟨x, y, st, rfl, hv, hw, hS⟩ := hS.c2
  have kk := hs lo (x :: y :: x :: y :: st) h cn sn H locs ls hk hH hL ⟨hv, hw, hv, hw, hS⟩ hl h1 h2
  obtain ⟨p, l, e, R, s, m, args, below, meth, c, Q, G, nL⟩ := X
  obtain ⟨hx, hb, -⟩ := hC
  exact lv_dup2_11 hx hb hdg (by rw [ev_cat, if_neg ht]) (by rw [ev_cat, if_neg hu]) kk
theorem sd_pop (hC : CF X cc own Ts) {t : Nat} (ht : t ≠ 1) (hdg : decode cc pc = .ok (.pop, 1)) (hs : Sd X (pc + 1) Γ τ k) : Sd X pc Γ (t :: τ) (o_pop k) := by
  intro lo st h cn sn H locs ls hk hH hL hS hl h1 h2
  obtain ⟨x, st, rfl, hv, hS⟩ := hS.c1
  have kk := hs lo st h cn sn H locs ls hk hH hL hS hl h1 h2
  obtain ⟨p, l, e, R, s, m, args, below, meth, c, Q, G, nL⟩ := X
  obtain ⟨hx, hb, -⟩ := hC
  exact lv_pop hx hb hdg (by rw [ev_cat, if_neg ht]) kk
end SD2

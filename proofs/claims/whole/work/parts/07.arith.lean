/-! ===== soundness of arithmetic, branches, switches ===== -/
theorem tdiv_bd {x y : Int} (hy : 0 < y) : (0 ≤ x → 0 ≤ x.tdiv y ∧ x.tdiv y ≤ x) ∧ (x ≤ 0 → x ≤ x.tdiv y ∧ x.tdiv y ≤ 0) := by
  have key : ∀ z : Int, 0 ≤ z → 0 ≤ z.tdiv y ∧ z.tdiv y ≤ z := by
    intro z hz
    rw [Int.tdiv_eq_ediv_of_nonneg hz]
    exact ⟨Int.ediv_nonneg hz (Int.le_of_lt hy), Int.ediv_le_self y hz⟩
  refine ⟨key x, fun h => ?_⟩
  have h1 := key (-x) (by omega)
  rw [Int.neg_tdiv] at h1
  exact ⟨by omega, by omega⟩
theorem tdiv_le {x y : Int} (hy : 0 < y) (hx : inI x) : inI (x.tdiv y) := by
  have h1 := tdiv_bd (x := x) hy
  have h3 := hx.1
  have h4 := hx.2
  rcases Int.le_total 0 x with z | z
  · have := h1.1 z
    exact ⟨by omega, by omega⟩
  · have := h1.2 z
    exact ⟨by omega, by omega⟩
theorem tdiv_leL {x y : Int} (hy : 0 < y) (hx : inL x) : inL (x.tdiv y) := by
  have h1 := tdiv_bd (x := x) hy
  have h3 := hx.1
  have h4 := hx.2
  rcases Int.le_total 0 x with z | z
  · have := h1.1 z
    exact ⟨by omega, by omega⟩
  · have := h1.2 z
    exact ⟨by omega, by omega⟩
theorem ofdiv {x y : Int} (hx : inI x) (hy : inI y) (h0 : 0 < y) : Int32.ofInt (x.tdiv y) = Int32.ofInt x / Int32.ofInt y := by
  apply Int32.toInt_inj.mp
  rw [toI (tdiv_le h0 hx), Int32.toInt_div_of_ne_right, toI hx, toI hy]
  intro z
  have := congrArg Int32.toInt z
  rw [toI hy] at this
  have h1 : (-1 : Int32).toInt = -1 := by decide
  rw [h1] at this
  omega
theorem ofdivL {x y : Int} (hx : inL x) (hy : inL y) (h0 : 0 < y) : Int64.ofInt (x.tdiv y) = Int64.ofInt x / Int64.ofInt y := by
  apply Int64.toInt_inj.mp
  rw [toL (tdiv_leL h0 hx), Int64.toInt_div_of_ne_right, toL hx, toL hy]
  intro z
  have := congrArg Int64.toInt z
  rw [toL hy] at this
  have h1 : (-1 : Int64).toInt = -1 := by decide
  rw [h1] at this
  omega
theorem ofne {y : Int} (hy : inI y) (h0 : 0 < y) : ¬ Int32.ofInt y = 0 := by
  intro z
  have := congrArg Int32.toInt z
  rw [toI hy] at this
  have h1 : (0 : Int32).toInt = 0 := by decide
  rw [h1] at this
  omega
theorem ofneL {y : Int} (hy : inL y) (h0 : 0 < y) : ¬ Int64.ofInt y = 0 := by
  intro z
  have := congrArg Int64.toInt z
  rw [toL hy] at this
  have h1 : (0 : Int64).toInt = 0 := by decide
  rw [h1] at this
  omega
theorem tmod_in {x y : Int} (hy : inI y) (h0 : 0 < y) : inI (x.tmod y) := by
  have := tmod_bounds (a := x) h0
  have h3 := hy.2
  exact ⟨by omega, by omega⟩
theorem tmod_inL {x y : Int} (hy : inL y) (h0 : 0 < y) : inL (x.tmod y) := by
  have := tmod_bounds (a := x) h0
  have h3 := hy.2
  exact ⟨by omega, by omega⟩
theorem ofmod {x y : Int} (hx : inI x) (hy : inI y) (h0 : 0 < y) : Int32.ofInt (x.tmod y) = Int32.ofInt x - Int32.ofInt x / Int32.ofInt y * Int32.ofInt y := by
  rw [← ofdiv hx hy h0, ← Int32.ofInt_mul, ← Int32.ofInt_sub]
  congr 1
  have := Int.mul_tdiv_add_tmod x y
  have h2 : y * x.tdiv y = x.tdiv y * y := Int.mul_comm _ _
  omega
theorem ofmodL {x y : Int} (hx : inL x) (hy : inL y) (h0 : 0 < y) : Int64.ofInt (x.tmod y) = Int64.ofInt x - Int64.ofInt x / Int64.ofInt y * Int64.ofInt y := by
  rw [← ofdivL hx hy h0, ← Int64.ofInt_mul, ← Int64.ofInt_sub]
  congr 1
  have := Int.mul_tdiv_add_tmod x y
  have h2 : y * x.tdiv y = x.tdiv y * y := Int.mul_comm _ _
  omega
theorem of_le {x y : Int} (hx : inI x) (hy : inI y) : Int32.ofInt x ≤ Int32.ofInt y ↔ x ≤ y := by rw [Int32.le_iff_toInt_le, toI hx, toI hy]
theorem of_lt {x y : Int} (hx : inI x) (hy : inI y) : Int32.ofInt x < Int32.ofInt y ↔ x < y := by rw [Int32.lt_iff_toInt_lt, toI hx, toI hy]
theorem of_eq {x y : Int} (hx : inI x) (hy : inI y) : Int32.ofInt x = Int32.ofInt y ↔ x = y := by rw [← Int32.toInt_inj, toI hx, toI hy]
theorem of_0 : (0 : Int32) = Int32.ofInt 0 := rfl
theorem inI_0 : inI 0 := ⟨by decide, by decide⟩
section SD3
variable {X : CX} {pc : Nat} {Γ Γ' : List (Nat × Nat)} {τ : List Nat} {k kt kf : tK} {cc : ByteArray} {own : String} {Ts : List Cond}
theorem sd_bin {t u r : Nat} {f : Int → Int → Int} {P : Int → Int → Prop} (hv : ∀ (h : tH) (x y : Int), vt h t x → vt h u y → P x y → vt h r (f x y)) (row : ∀ (H : Heap) (locs : List Loc) (cn sn : Nat) (ls : Array Slot) (rest : List Value) (h : tH) (x y : Int), vt h t x → vt h u y → P x y → WX X H locs cn sn (F0 (xm X) (pc + 1) ls (ev (xG X) r (f x y) :: rest)) → WX X H locs cn sn (F0 (xm X) pc ls (ev (xG X) u y :: ev (xG X) t x :: rest))) (hs : Sd X (pc + 1) Γ (r :: τ) k) : Sd X pc Γ (u :: t :: τ) (o_bin f P k) := by
  intro lo st h cn sn H locs ls hk hH hL hS hl h1 h2
  obtain ⟨y, x, st, rfl, v1, v2, hS⟩ := hS.c2
  exact row H locs cn sn ls _ h x y v2 v1 hk.1 (hs lo (f x y :: st) h cn sn H locs ls hk.2 hH hL ⟨hv h x y v2 v1 hk.1, hS⟩ hl h1 h2)
theorem sd_un {t r : Nat} {f : Int → Int} {P : Int → Prop} (hv : ∀ (h : tH) (x : Int), vt h t x → P x → vt h r (f x)) (row : ∀ (H : Heap) (locs : List Loc) (cn sn : Nat) (ls : Array Slot) (rest : List Value) (h : tH) (x : Int), vt h t x → P x → WX X H locs cn sn (F0 (xm X) (pc + 1) ls (ev (xG X) r (f x) :: rest)) → WX X H locs cn sn (F0 (xm X) pc ls (ev (xG X) t x :: rest))) (hs : Sd X (pc + 1) Γ (r :: τ) k) : Sd X pc Γ (t :: τ) (o_un f P k) := by
  intro lo st h cn sn H locs ls hk hH hL hS hl h1 h2
  obtain ⟨x, st, rfl, v1, hS⟩ := hS.c1
  exact row H locs cn sn ls _ h x v1 hk.1 (hs lo (f x :: st) h cn sn H locs ls hk.2 hH hL ⟨hv h x v1 hk.1, hS⟩ hl h1 h2)
theorem sd_iadd (hC : CF X cc own Ts) (hdg : decode cc pc = .ok (.iadd, 1)) (hs : Sd X (pc + 1) Γ (0 :: τ) k) : Sd X pc Γ (0 :: 0 :: τ) (o_iadd k) := by
  refine sd_bin (t := 0) (u := 0) (r := 0) (fun h x y v1 v2 hp => hp) ?_ hs
  intro H locs cn sn ls rest h x y v1 v2 hp kk
  obtain ⟨p, l, e, R, s, m, args, below, meth, c, Q, G, nL⟩ := X
  obtain ⟨hx, hb, -⟩ := hC
  refine lv_iadd hx hb hdg ?_
  rw [← Int32.ofInt_add]
  exact kk
theorem sd_iaddw (hC : CF X cc own Ts) (hdg : decode cc pc = .ok (.iadd, 1)) (hs : Sd X (pc + 1) Γ (0 :: τ) k) : Sd X pc Γ (0 :: 0 :: τ) (o_iaddw k) := by
  refine sd_bin (t := 0) (u := 0) (r := 0) (fun h x y v1 v2 hp => inI_of _) ?_ hs
  intro H locs cn sn ls rest h x y v1 v2 hp kk
  obtain ⟨p, l, e, R, s, m, args, below, meth, c, Q, G, nL⟩ := X
  obtain ⟨hx, hb, -⟩ := hC
  refine lv_iadd hx hb hdg ?_
  rw [← Int32.ofInt_add, ← ofw]
  exact kk
theorem sd_isub (hC : CF X cc own Ts) (hdg : decode cc pc = .ok (.isub, 1)) (hs : Sd X (pc + 1) Γ (0 :: τ) k) : Sd X pc Γ (0 :: 0 :: τ) (o_isub k) := by
  refine sd_bin (t := 0) (u := 0) (r := 0) (fun h x y v1 v2 hp => hp) ?_ hs
  intro H locs cn sn ls rest h x y v1 v2 hp kk
  obtain ⟨p, l, e, R, s, m, args, below, meth, c, Q, G, nL⟩ := X
  obtain ⟨hx, hb, -⟩ := hC
  refine lv_isub hx hb hdg ?_
  rw [← Int32.ofInt_sub]
  exact kk
theorem sd_isubw (hC : CF X cc own Ts) (hdg : decode cc pc = .ok (.isub, 1)) (hs : Sd X (pc + 1) Γ (0 :: τ) k) : Sd X pc Γ (0 :: 0 :: τ) (o_isubw k) := by
  refine sd_bin (t := 0) (u := 0) (r := 0) (fun h x y v1 v2 hp => inI_of _) ?_ hs
  intro H locs cn sn ls rest h x y v1 v2 hp kk
  obtain ⟨p, l, e, R, s, m, args, below, meth, c, Q, G, nL⟩ := X
  obtain ⟨hx, hb, -⟩ := hC
  refine lv_isub hx hb hdg ?_
  rw [← Int32.ofInt_sub, ← ofw]
  exact kk
theorem sd_imul (hC : CF X cc own Ts) (hdg : decode cc pc = .ok (.imul, 1)) (hs : Sd X (pc + 1) Γ (0 :: τ) k) : Sd X pc Γ (0 :: 0 :: τ) (o_imul k) := by
  refine sd_bin (t := 0) (u := 0) (r := 0) (fun h x y v1 v2 hp => hp) ?_ hs
  intro H locs cn sn ls rest h x y v1 v2 hp kk
  obtain ⟨p, l, e, R, s, m, args, below, meth, c, Q, G, nL⟩ := X
  obtain ⟨hx, hb, -⟩ := hC
  refine lv_imul hx hb hdg ?_
  rw [← Int32.ofInt_mul]
  exact kk
theorem sd_imulw (hC : CF X cc own Ts) (hdg : decode cc pc = .ok (.imul, 1)) (hs : Sd X (pc + 1) Γ (0 :: τ) k) : Sd X pc Γ (0 :: 0 :: τ) (o_imulw k) := by
  refine sd_bin (t := 0) (u := 0) (r := 0) (fun h x y v1 v2 hp => inI_of _) ?_ hs
  intro H locs cn sn ls rest h x y v1 v2 hp kk
  obtain ⟨p, l, e, R, s, m, args, below, meth, c, Q, G, nL⟩ := X
  obtain ⟨hx, hb, -⟩ := hC
  refine lv_imul hx hb hdg ?_
  rw [← Int32.ofInt_mul, ← ofw]
  exact kk
theorem sd_ladd (hC : CF X cc own Ts) (hdg : decode cc pc = .ok (.ladd, 1)) (hs : Sd X (pc + 1) Γ (1 :: τ) k) : Sd X pc Γ (1 :: 1 :: τ) (o_ladd k) := by
  refine sd_bin (t := 1) (u := 1) (r := 1) (fun h x y v1 v2 hp => hp) ?_ hs
  intro H locs cn sn ls rest h x y v1 v2 hp kk
  obtain ⟨p, l, e, R, s, m, args, below, meth, c, Q, G, nL⟩ := X
  obtain ⟨hx, hb, -⟩ := hC
  refine lv_ladd hx hb hdg ?_
  rw [← Int64.ofInt_add]
  exact kk
theorem sd_laddw (hC : CF X cc own Ts) (hdg : decode cc pc = .ok (.ladd, 1)) (hs : Sd X (pc + 1) Γ (1 :: τ) k) : Sd X pc Γ (1 :: 1 :: τ) (o_laddw k) := by
  refine sd_bin (t := 1) (u := 1) (r := 1) (fun h x y v1 v2 hp => inL_of _) ?_ hs
  intro H locs cn sn ls rest h x y v1 v2 hp kk
  obtain ⟨p, l, e, R, s, m, args, below, meth, c, Q, G, nL⟩ := X
  obtain ⟨hx, hb, -⟩ := hC
  refine lv_ladd hx hb hdg ?_
  rw [← Int64.ofInt_add, ← ofwL]
  exact kk
theorem sd_lsub (hC : CF X cc own Ts) (hdg : decode cc pc = .ok (.lsub, 1)) (hs : Sd X (pc + 1) Γ (1 :: τ) k) : Sd X pc Γ (1 :: 1 :: τ) (o_lsub k) := by
  refine sd_bin (t := 1) (u := 1) (r := 1) (fun h x y v1 v2 hp => hp) ?_ hs
  intro H locs cn sn ls rest h x y v1 v2 hp kk
  obtain ⟨p, l, e, R, s, m, args, below, meth, c, Q, G, nL⟩ := X
  obtain ⟨hx, hb, -⟩ := hC
  refine lv_lsub hx hb hdg ?_
  rw [← Int64.ofInt_sub]
  exact kk
theorem sd_lsubw (hC : CF X cc own Ts) (hdg : decode cc pc = .ok (.lsub, 1)) (hs : Sd X (pc + 1) Γ (1 :: τ) k) : Sd X pc Γ (1 :: 1 :: τ) (o_lsubw k) := by
  refine sd_bin (t := 1) (u := 1) (r := 1) (fun h x y v1 v2 hp => inL_of _) ?_ hs
  intro H locs cn sn ls rest h x y v1 v2 hp kk
  obtain ⟨p, l, e, R, s, m, args, below, meth, c, Q, G, nL⟩ := X
  obtain ⟨hx, hb, -⟩ := hC
  refine lv_lsub hx hb hdg ?_
  rw [← Int64.ofInt_sub, ← ofwL]
  exact kk
theorem sd_lmul (hC : CF X cc own Ts) (hdg : decode cc pc = .ok (.lmul, 1)) (hs : Sd X (pc + 1) Γ (1 :: τ) k) : Sd X pc Γ (1 :: 1 :: τ) (o_lmul k) := by
  refine sd_bin (t := 1) (u := 1) (r := 1) (fun h x y v1 v2 hp => hp) ?_ hs
  intro H locs cn sn ls rest h x y v1 v2 hp kk
  obtain ⟨p, l, e, R, s, m, args, below, meth, c, Q, G, nL⟩ := X
  obtain ⟨hx, hb, -⟩ := hC
  refine lv_lmul hx hb hdg ?_
  rw [← Int64.ofInt_mul]
  exact kk
theorem sd_lmulw (hC : CF X cc own Ts) (hdg : decode cc pc = .ok (.lmul, 1)) (hs : Sd X (pc + 1) Γ (1 :: τ) k) : Sd X pc Γ (1 :: 1 :: τ) (o_lmulw k) := by
  refine sd_bin (t := 1) (u := 1) (r := 1) (fun h x y v1 v2 hp => inL_of _) ?_ hs
  intro H locs cn sn ls rest h x y v1 v2 hp kk
  obtain ⟨p, l, e, R, s, m, args, below, meth, c, Q, G, nL⟩ := X
  obtain ⟨hx, hb, -⟩ := hC
  refine lv_lmul hx hb hdg ?_
  rw [← Int64.ofInt_mul, ← ofwL]
  exact kk
theorem sd_idiv (hC : CF X cc own Ts) (hdg : decode cc pc = .ok (.idiv, 1)) (hs : Sd X (pc + 1) Γ (0 :: τ) k) : Sd X pc Γ (0 :: 0 :: τ) (o_idiv k) := by
  refine sd_bin (t := 0) (u := 0) (r := 0) (fun h x y v1 v2 hp => tdiv_le hp v1) ?_ hs
  intro H locs cn sn ls rest h x y v1 v2 hp kk
  obtain ⟨p, l, e, R, s, m, args, below, meth, c, Q, G, nL⟩ := X
  obtain ⟨hx, hb, -⟩ := hC
  refine lv_idiv hx hb hdg (ofne v2 hp) ?_
  rw [← ofdiv v1 v2 hp]
  exact kk
theorem sd_irem (hC : CF X cc own Ts) (hdg : decode cc pc = .ok (.irem, 1)) (hs : Sd X (pc + 1) Γ (0 :: τ) k) : Sd X pc Γ (0 :: 0 :: τ) (o_irem k) := by
  refine sd_bin (t := 0) (u := 0) (r := 0) (fun h x y v1 v2 hp => tmod_in v2 hp) ?_ hs
  intro H locs cn sn ls rest h x y v1 v2 hp kk
  obtain ⟨p, l, e, R, s, m, args, below, meth, c, Q, G, nL⟩ := X
  obtain ⟨hx, hb, -⟩ := hC
  refine lv_irem hx hb hdg (ofne v2 hp) ?_
  rw [← ofmod v1 v2 hp]
  exact kk
theorem sd_ldiv (hC : CF X cc own Ts) (hdg : decode cc pc = .ok (.ldiv, 1)) (hs : Sd X (pc + 1) Γ (1 :: τ) k) : Sd X pc Γ (1 :: 1 :: τ) (o_ldiv k) := by
  refine sd_bin (t := 1) (u := 1) (r := 1) (fun h x y v1 v2 hp => tdiv_leL hp v1) ?_ hs
  intro H locs cn sn ls rest h x y v1 v2 hp kk
  obtain ⟨p, l, e, R, s, m, args, below, meth, c, Q, G, nL⟩ := X
  obtain ⟨hx, hb, -⟩ := hC
  refine lv_ldiv hx hb hdg (ofneL v2 hp) ?_
  rw [← ofdivL v1 v2 hp]
  exact kk
theorem sd_lrem (hC : CF X cc own Ts) (hdg : decode cc pc = .ok (.lrem, 1)) (hs : Sd X (pc + 1) Γ (1 :: τ) k) : Sd X pc Γ (1 :: 1 :: τ) (o_lrem k) := by
  refine sd_bin (t := 1) (u := 1) (r := 1) (fun h x y v1 v2 hp => tmod_inL v2 hp) ?_ hs
  intro H locs cn sn ls rest h x y v1 v2 hp kk
  obtain ⟨p, l, e, R, s, m, args, below, meth, c, Q, G, nL⟩ := X
  obtain ⟨hx, hb, -⟩ := hC
  refine lv_lrem hx hb hdg (ofneL v2 hp) ?_
  rw [← ofmodL v1 v2 hp]
  exact kk
theorem sd_iand (hC : CF X cc own Ts) (hdg : decode cc pc = .ok (.iand, 1)) (hs : Sd X (pc + 1) Γ (0 :: τ) k) : Sd X pc Γ (0 :: 0 :: τ) (o_iand k) := by
  refine sd_bin (t := 0) (u := 0) (r := 0) (fun h x y v1 v2 hp => inI_of _) ?_ hs
  intro H locs cn sn ls rest h x y v1 v2 hp kk
  obtain ⟨p, l, e, R, s, m, args, below, meth, c, Q, G, nL⟩ := X
  obtain ⟨hx, hb, -⟩ := hC
  refine lv_iand hx hb hdg ?_
  refine Eq.mp (congrArg (fun z => W p l e R s m args below meth c H locs cn sn Q (F0 m (pc + 1) ls (Value.int z :: rest))) (Int32.ofInt_toInt _)) ?_
  exact kk
theorem sd_ior (hC : CF X cc own Ts) (hdg : decode cc pc = .ok (.ior, 1)) (hs : Sd X (pc + 1) Γ (0 :: τ) k) : Sd X pc Γ (0 :: 0 :: τ) (o_ior k) := by
  refine sd_bin (t := 0) (u := 0) (r := 0) (fun h x y v1 v2 hp => inI_of _) ?_ hs
  intro H locs cn sn ls rest h x y v1 v2 hp kk
  obtain ⟨p, l, e, R, s, m, args, below, meth, c, Q, G, nL⟩ := X
  obtain ⟨hx, hb, -⟩ := hC
  refine lv_ior hx hb hdg ?_
  refine Eq.mp (congrArg (fun z => W p l e R s m args below meth c H locs cn sn Q (F0 m (pc + 1) ls (Value.int z :: rest))) (Int32.ofInt_toInt _)) ?_
  exact kk
theorem sd_ishl (hC : CF X cc own Ts) (hdg : decode cc pc = .ok (.ishl, 1)) (hs : Sd X (pc + 1) Γ (0 :: τ) k) : Sd X pc Γ (0 :: 0 :: τ) (o_ishl k) := by
  refine sd_bin (t := 0) (u := 0) (r := 0) (fun h x y v1 v2 hp => inI_of _) ?_ hs
  intro H locs cn sn ls rest h x y v1 v2 hp kk
  obtain ⟨p, l, e, R, s, m, args, below, meth, c, Q, G, nL⟩ := X
  obtain ⟨hx, hb, -⟩ := hC
  refine lv_ishl hx hb hdg ?_
  refine Eq.mp (congrArg (fun z => W p l e R s m args below meth c H locs cn sn Q (F0 m (pc + 1) ls (Value.int z :: rest))) (Int32.ofInt_toInt _)) ?_
  exact kk
theorem sd_ishr (hC : CF X cc own Ts) (hdg : decode cc pc = .ok (.ishr, 1)) (hs : Sd X (pc + 1) Γ (0 :: τ) k) : Sd X pc Γ (0 :: 0 :: τ) (o_ishr k) := by
  refine sd_bin (t := 0) (u := 0) (r := 0) (fun h x y v1 v2 hp => inI_of _) ?_ hs
  intro H locs cn sn ls rest h x y v1 v2 hp kk
  obtain ⟨p, l, e, R, s, m, args, below, meth, c, Q, G, nL⟩ := X
  obtain ⟨hx, hb, -⟩ := hC
  refine lv_ishr hx hb hdg ?_
  refine Eq.mp (congrArg (fun z => W p l e R s m args below meth c H locs cn sn Q (F0 m (pc + 1) ls (Value.int z :: rest))) (Int32.ofInt_toInt _)) ?_
  exact kk
theorem sd_iushr (hC : CF X cc own Ts) (hdg : decode cc pc = .ok (.iushr, 1)) (hs : Sd X (pc + 1) Γ (0 :: τ) k) : Sd X pc Γ (0 :: 0 :: τ) (o_iushr k) := by
  refine sd_bin (t := 0) (u := 0) (r := 0) (fun h x y v1 v2 hp => inI_of _) ?_ hs
  intro H locs cn sn ls rest h x y v1 v2 hp kk
  obtain ⟨p, l, e, R, s, m, args, below, meth, c, Q, G, nL⟩ := X
  obtain ⟨hx, hb, -⟩ := hC
  exact lv_iushr hx hb hdg (Int32.ofInt_toInt _).symm kk
theorem lcmp_of {x y : Int} (hx : inL x) (hy : inL y) : lg_cmp (Int64.ofInt x) (Int64.ofInt y) = Int32.ofInt (lCmp x y) := by
  have h1 : Int64.ofInt x < Int64.ofInt y ↔ x < y := by rw [Int64.lt_iff_toInt_lt, toL hx, toL hy]
  have h2 : Int64.ofInt y < Int64.ofInt x ↔ y < x := by rw [Int64.lt_iff_toInt_lt, toL hx, toL hy]
  have h3 : Int64.ofInt x = Int64.ofInt y ↔ x = y := by rw [← Int64.toInt_inj, toL hx, toL hy]
  unfold lg_cmp lCmp
  rcases Int.lt_trichotomy x y with z | z | z
  · rw [if_neg (fun w => by have := h2.mp w; omega), if_neg (fun w => by have := h3.mp w; omega), if_pos z]
    rfl
  · rw [if_neg (fun w => by have := h2.mp w; omega), if_pos (h3.mpr z), if_neg (by omega), if_pos z]
    rfl
  · rw [if_pos (h2.mpr z), if_neg (by omega), if_neg (by omega)]
    rfl
theorem sd_lcmp (hC : CF X cc own Ts) (hdg : decode cc pc = .ok (.lcmp, 1)) (hs : Sd X (pc + 1) Γ (0 :: τ) k) : Sd X pc Γ (1 :: 1 :: τ) (o_lcmp k) := by
  refine sd_bin (t := 1) (u := 1) (r := 0) (fun h x y v1 v2 hp => by unfold lCmp; split; exact ⟨by decide, by decide⟩; split <;> exact ⟨by decide, by decide⟩) ?_ hs
  intro H locs cn sn ls rest h x y v1 v2 hp kk
  obtain ⟨p, l, e, R, s, m, args, below, meth, c, Q, G, nL⟩ := X
  obtain ⟨hx, hb, -⟩ := hC
  refine W.lcmp hx hb hdg ?_
  rw [lcmp_of v1 v2]
  exact kk
theorem sd_i2l (hC : CF X cc own Ts) (hdg : decode cc pc = .ok (.i2l, 1)) (hs : Sd X (pc + 1) Γ (1 :: τ) k) : Sd X pc Γ (0 :: τ) (o_i2l k) := by
  refine sd_un (t := 0) (r := 1) (fun h x v1 hp => ⟨by have := v1.1; omega, by have := v1.2; omega⟩) ?_ hs
  intro H locs cn sn ls rest h x v1 hp kk
  obtain ⟨p, l, e, R, s, m, args, below, meth, c, Q, G, nL⟩ := X
  obtain ⟨hx, hb, -⟩ := hC
  refine lv_i2l hx hb hdg ?_ kk
  apply Int64.toInt_inj.mp
  rw [Int32.toInt_toInt64, toI v1, toL ⟨by have := v1.1; omega, by have := v1.2; omega⟩]
theorem sd_l2i (hC : CF X cc own Ts) (hdg : decode cc pc = .ok (.l2i, 1)) (hs : Sd X (pc + 1) Γ (0 :: τ) k) : Sd X pc Γ (1 :: τ) (o_l2i k) := by
  refine sd_un (t := 1) (r := 0) (fun h x v1 hp => hp) ?_ hs
  intro H locs cn sn ls rest h x v1 hp kk
  obtain ⟨p, l, e, R, s, m, args, below, meth, c, Q, G, nL⟩ := X
  obtain ⟨hx, hb, -⟩ := hC
  refine lv_l2i hx hb hdg ?_ kk
  apply Int32.toInt_inj.mp
  rw [Int64.toInt_toInt32, toL v1, toI hp]
  have := hp.1
  have := hp.2
  exact Int.bmod_eq_of_le (by omega) (by omega)
theorem sd_i2b (hC : CF X cc own Ts) (hdg : decode cc pc = .ok (.i2b, 1)) (hs : Sd X (pc + 1) Γ (0 :: τ) k) : Sd X pc Γ (0 :: τ) (o_i2b k) := by
  refine sd_un (t := 0) (r := 0) (fun h x v1 hp => inI_of _) ?_ hs
  intro H locs cn sn ls rest h x v1 hp kk
  obtain ⟨p, l, e, R, s, m, args, below, meth, c, Q, G, nL⟩ := X
  obtain ⟨hx, hb, -⟩ := hC
  exact lv_i2b hx hb hdg (Int32.ofInt_toInt _).symm kk
theorem sd_ic {P : Int → Int → Prop} {tgt : Nat} (row : ∀ (H : Heap) (locs : List Loc) (cn sn : Nat) (ls : Array Slot) (rest : List Value) (x y : Int), inI x → inI y → (P x y → WX X H locs cn sn (F0 (xm X) tgt ls rest)) → (¬ P x y → WX X H locs cn sn (F0 (xm X) (pc + 3) ls rest)) → WX X H locs cn sn (F0 (xm X) pc ls (ev (xG X) 0 y :: ev (xG X) 0 x :: rest))) (ht : Sd X tgt Γ τ kt) (hf : Sd X (pc + 3) Γ τ kf) : Sd X pc Γ (0 :: 0 :: τ) (o_ic P kt kf) := by
  intro lo st h cn sn H locs ls hk hH hL hS hl h1 h2
  obtain ⟨y, x, st, rfl, v1, v2, hS⟩ := hS.c2
  exact row H locs cn sn ls _ x y v2 v1 (fun z => ht lo st h cn sn H locs ls (hk.1 z) hH hL hS hl h1 h2) (fun z => hf lo st h cn sn H locs ls (hk.2 z) hH hL hS hl h1 h2)
theorem sd_iz {P : Int → Prop} {tgt : Nat} (row : ∀ (H : Heap) (locs : List Loc) (cn sn : Nat) (ls : Array Slot) (rest : List Value) (x : Int), inI x → (P x → WX X H locs cn sn (F0 (xm X) tgt ls rest)) → (¬ P x → WX X H locs cn sn (F0 (xm X) (pc + 3) ls rest)) → WX X H locs cn sn (F0 (xm X) pc ls (ev (xG X) 0 x :: rest))) (ht : Sd X tgt Γ τ kt) (hf : Sd X (pc + 3) Γ τ kf) : Sd X pc Γ (0 :: τ) (o_iz P kt kf) := by
  intro lo st h cn sn H locs ls hk hH hL hS hl h1 h2
  obtain ⟨x, st, rfl, v1, hS⟩ := hS.c1
  exact row H locs cn sn ls _ x v1 (fun z => ht lo st h cn sn H locs ls (hk.1 z) hH hL hS hl h1 h2) (fun z => hf lo st h cn sn H locs ls (hk.2 z) hH hL hS hl h1 h2)
theorem sd_icmp_eq (hC : CF X cc own Ts) {off : Int} {tgt : Nat} (hdg : decode cc pc = .ok (.if_icmp .eq off, 3)) (hto : (pc : Int) + off = (tgt : Int)) (ht : Sd X tgt Γ τ kt) (hf : Sd X (pc + 3) Γ τ kf) : Sd X pc Γ (0 :: 0 :: τ) (o_ic (fun x y => x = y) kt kf) := by
  refine sd_ic ?_ ht hf
  intro H locs cn sn ls rest x y v1 v2 k1 k2
  obtain ⟨p, l, e, R, s, m, args, below, meth, c, Q, G, nL⟩ := X
  obtain ⟨hx, hb, -⟩ := hC
  exact lv_icmp_eq hx hb hdg hto (fun z => k1 ((of_eq v1 v2).mp z)) (fun z => k2 (fun w => z ((of_eq v1 v2).mpr w)))
theorem sd_icmp_ne (hC : CF X cc own Ts) {off : Int} {tgt : Nat} (hdg : decode cc pc = .ok (.if_icmp .ne off, 3)) (hto : (pc : Int) + off = (tgt : Int)) (ht : Sd X tgt Γ τ kt) (hf : Sd X (pc + 3) Γ τ kf) : Sd X pc Γ (0 :: 0 :: τ) (o_ic (fun x y => x ≠ y) kt kf) := by
  refine sd_ic ?_ ht hf
  intro H locs cn sn ls rest x y v1 v2 k1 k2
  obtain ⟨p, l, e, R, s, m, args, below, meth, c, Q, G, nL⟩ := X
  obtain ⟨hx, hb, -⟩ := hC
  exact lv_icmp_ne hx hb hdg hto (fun z => k1 ((not_congr (of_eq v1 v2)).mp z)) (fun z => k2 (fun w => w ((of_eq v1 v2).mp z)))
theorem sd_icmp_lt (hC : CF X cc own Ts) {off : Int} {tgt : Nat} (hdg : decode cc pc = .ok (.if_icmp .lt off, 3)) (hto : (pc : Int) + off = (tgt : Int)) (ht : Sd X tgt Γ τ kt) (hf : Sd X (pc + 3) Γ τ kf) : Sd X pc Γ (0 :: 0 :: τ) (o_ic (fun x y => x < y) kt kf) := by
  refine sd_ic ?_ ht hf
  intro H locs cn sn ls rest x y v1 v2 k1 k2
  obtain ⟨p, l, e, R, s, m, args, below, meth, c, Q, G, nL⟩ := X
  obtain ⟨hx, hb, -⟩ := hC
  exact lv_icmp_lt hx hb hdg hto (fun z => k1 ((of_lt v1 v2).mp z)) (fun z => k2 (fun w => z ((of_lt v1 v2).mpr w)))
theorem sd_icmp_ge (hC : CF X cc own Ts) {off : Int} {tgt : Nat} (hdg : decode cc pc = .ok (.if_icmp .ge off, 3)) (hto : (pc : Int) + off = (tgt : Int)) (ht : Sd X tgt Γ τ kt) (hf : Sd X (pc + 3) Γ τ kf) : Sd X pc Γ (0 :: 0 :: τ) (o_ic (fun x y => y ≤ x) kt kf) := by
  refine sd_ic ?_ ht hf
  intro H locs cn sn ls rest x y v1 v2 k1 k2
  obtain ⟨p, l, e, R, s, m, args, below, meth, c, Q, G, nL⟩ := X
  obtain ⟨hx, hb, -⟩ := hC
  exact lv_icmp_ge hx hb hdg hto (fun z => k1 ((of_le v2 v1).mp z)) (fun z => k2 (fun w => z ((of_le v2 v1).mpr w)))
theorem sd_icmp_gt (hC : CF X cc own Ts) {off : Int} {tgt : Nat} (hdg : decode cc pc = .ok (.if_icmp .gt off, 3)) (hto : (pc : Int) + off = (tgt : Int)) (ht : Sd X tgt Γ τ kt) (hf : Sd X (pc + 3) Γ τ kf) : Sd X pc Γ (0 :: 0 :: τ) (o_ic (fun x y => y < x) kt kf) := by
  refine sd_ic ?_ ht hf
  intro H locs cn sn ls rest x y v1 v2 k1 k2
  obtain ⟨p, l, e, R, s, m, args, below, meth, c, Q, G, nL⟩ := X
  obtain ⟨hx, hb, -⟩ := hC
  exact lv_icmp_gt hx hb hdg hto (fun z => k1 ((of_lt v2 v1).mp z)) (fun z => k2 (fun w => z ((of_lt v2 v1).mpr w)))
theorem sd_icmp_le (hC : CF X cc own Ts) {off : Int} {tgt : Nat} (hdg : decode cc pc = .ok (.if_icmp .le off, 3)) (hto : (pc : Int) + off = (tgt : Int)) (ht : Sd X tgt Γ τ kt) (hf : Sd X (pc + 3) Γ τ kf) : Sd X pc Γ (0 :: 0 :: τ) (o_ic (fun x y => x ≤ y) kt kf) := by
  refine sd_ic ?_ ht hf
  intro H locs cn sn ls rest x y v1 v2 k1 k2
  obtain ⟨p, l, e, R, s, m, args, below, meth, c, Q, G, nL⟩ := X
  obtain ⟨hx, hb, -⟩ := hC
  exact lv_icmp_le hx hb hdg hto (fun z => k1 ((of_le v1 v2).mp z)) (fun z => k2 (fun w => z ((of_le v1 v2).mpr w)))
theorem sd_if_eq (hC : CF X cc own Ts) {off : Int} {tgt : Nat} (hdg : decode cc pc = .ok (.ifCond .eq off, 3)) (hto : (pc : Int) + off = (tgt : Int)) (ht : Sd X tgt Γ τ kt) (hf : Sd X (pc + 3) Γ τ kf) : Sd X pc Γ (0 :: τ) (o_iz (fun x => x = 0) kt kf) := by
  refine sd_iz ?_ ht hf
  intro H locs cn sn ls rest x v1 k1 k2
  obtain ⟨p, l, e, R, s, m, args, below, meth, c, Q, G, nL⟩ := X
  obtain ⟨hx, hb, -⟩ := hC
  exact lv_if_eq hx hb hdg hto (fun z => k1 ((of_eq v1 inI_0).mp z)) (fun z => k2 (fun w => z ((of_eq v1 inI_0).mpr w)))
theorem sd_if_ne (hC : CF X cc own Ts) {off : Int} {tgt : Nat} (hdg : decode cc pc = .ok (.ifCond .ne off, 3)) (hto : (pc : Int) + off = (tgt : Int)) (ht : Sd X tgt Γ τ kt) (hf : Sd X (pc + 3) Γ τ kf) : Sd X pc Γ (0 :: τ) (o_iz (fun x => x ≠ 0) kt kf) := by
  refine sd_iz ?_ ht hf
  intro H locs cn sn ls rest x v1 k1 k2
  obtain ⟨p, l, e, R, s, m, args, below, meth, c, Q, G, nL⟩ := X
  obtain ⟨hx, hb, -⟩ := hC
  exact lv_if_ne hx hb hdg hto (fun z => k1 ((not_congr (of_eq v1 inI_0)).mp z)) (fun z => k2 (fun w => w ((of_eq v1 inI_0).mp z)))
theorem sd_if_lt (hC : CF X cc own Ts) {off : Int} {tgt : Nat} (hdg : decode cc pc = .ok (.ifCond .lt off, 3)) (hto : (pc : Int) + off = (tgt : Int)) (ht : Sd X tgt Γ τ kt) (hf : Sd X (pc + 3) Γ τ kf) : Sd X pc Γ (0 :: τ) (o_iz (fun x => x < 0) kt kf) := by
  refine sd_iz ?_ ht hf
  intro H locs cn sn ls rest x v1 k1 k2
  obtain ⟨p, l, e, R, s, m, args, below, meth, c, Q, G, nL⟩ := X
  obtain ⟨hx, hb, -⟩ := hC
  exact lv_if_lt hx hb hdg hto (fun z => k1 ((of_lt v1 inI_0).mp z)) (fun z => k2 (fun w => z ((of_lt v1 inI_0).mpr w)))
theorem sd_if_ge (hC : CF X cc own Ts) {off : Int} {tgt : Nat} (hdg : decode cc pc = .ok (.ifCond .ge off, 3)) (hto : (pc : Int) + off = (tgt : Int)) (ht : Sd X tgt Γ τ kt) (hf : Sd X (pc + 3) Γ τ kf) : Sd X pc Γ (0 :: τ) (o_iz (fun x => 0 ≤ x) kt kf) := by
  refine sd_iz ?_ ht hf
  intro H locs cn sn ls rest x v1 k1 k2
  obtain ⟨p, l, e, R, s, m, args, below, meth, c, Q, G, nL⟩ := X
  obtain ⟨hx, hb, -⟩ := hC
  exact lv_if_ge hx hb hdg hto (fun z => k1 ((of_le inI_0 v1).mp z)) (fun z => k2 (fun w => z ((of_le inI_0 v1).mpr w)))
theorem sd_if_gt (hC : CF X cc own Ts) {off : Int} {tgt : Nat} (hdg : decode cc pc = .ok (.ifCond .gt off, 3)) (hto : (pc : Int) + off = (tgt : Int)) (ht : Sd X tgt Γ τ kt) (hf : Sd X (pc + 3) Γ τ kf) : Sd X pc Γ (0 :: τ) (o_iz (fun x => 0 < x) kt kf) := by
  refine sd_iz ?_ ht hf
  intro H locs cn sn ls rest x v1 k1 k2
  obtain ⟨p, l, e, R, s, m, args, below, meth, c, Q, G, nL⟩ := X
  obtain ⟨hx, hb, -⟩ := hC
  exact lv_if_gt hx hb hdg hto (fun z => k1 ((of_lt inI_0 v1).mp z)) (fun z => k2 (fun w => z ((of_lt inI_0 v1).mpr w)))
theorem sd_if_le (hC : CF X cc own Ts) {off : Int} {tgt : Nat} (hdg : decode cc pc = .ok (.ifCond .le off, 3)) (hto : (pc : Int) + off = (tgt : Int)) (ht : Sd X tgt Γ τ kt) (hf : Sd X (pc + 3) Γ τ kf) : Sd X pc Γ (0 :: τ) (o_iz (fun x => x ≤ 0) kt kf) := by
  refine sd_iz ?_ ht hf
  intro H locs cn sn ls rest x v1 k1 k2
  obtain ⟨p, l, e, R, s, m, args, below, meth, c, Q, G, nL⟩ := X
  obtain ⟨hx, hb, -⟩ := hC
  exact lv_if_le hx hb hdg hto (fun z => k1 ((of_le v1 inI_0).mp z)) (fun z => k2 (fun w => z ((of_le v1 inI_0).mpr w)))
theorem ev_obj (G : GT) {t : Nat} (ht : 7 ≤ t) (x : Int) : ev G t x = if x < 0 then .null else .ref x.toNat := by
  unfold ev
  split <;> first | (exfalso; omega) | rfl
theorem vt_obj {h : tH} {t : Nat} (ht : 7 ≤ t) {x : Int} (v : vt h t x) : x = -1 ∨ Kd h x = some t := by
  unfold vt at v
  split at v <;> first | (exfalso; omega) | exact v
theorem RH.pos {G : GT} {h : tH} {H : Heap} (r : RH G h H) {a : Int} {κ : Nat} (hk : Kd h a = some κ) : 0 ≤ a := by
  have := (r.2.2.2 a κ hk).1.1
  omega
theorem sd_ifnull (hC : CF X cc own Ts) {off : Int} {tgt t : Nat} (h7 : 7 ≤ t) (hdg : decode cc pc = .ok (.ifnull off, 3)) (hto : (pc : Int) + off = (tgt : Int)) (ht : Sd X tgt Γ τ kt) (hf : Sd X (pc + 3) Γ τ kf) : Sd X pc Γ (t :: τ) (o_iz (fun x => x = -1) kt kf) := by
  intro lo st h cn sn H locs ls hk hH hL hS hl h1 h2
  obtain ⟨x, st, rfl, v1, hS⟩ := hS.c1
  have k1 := fun z => ht lo st h cn sn H locs ls (hk.1 z) hH hL hS hl h1 h2
  have k2 := fun z => hf lo st h cn sn H locs ls (hk.2 z) hH hL hS hl h1 h2
  have v2 := vt_obj h7 v1
  have v3 : x = -1 ∨ 0 ≤ x := v2.imp_right (fun z => hH.pos z)
  obtain ⟨p, l, e, R, s, m, args, below, meth, c, Q, G, nL⟩ := X
  obtain ⟨hx, hb, -⟩ := hC
  show W p l e R s m args below meth c H locs cn sn Q (F0 m pc ls (ev G t x :: es G τ st))
  rw [ev_obj G h7]
  rcases v3 with z | z
  · rw [if_pos (by omega)]
    exact lv_ifnullN hx hb hdg hto (k1 z)
  · rw [if_neg (by omega)]
    exact lv_ifnull hx hb hdg (k2 (by omega))
theorem sd_ifnonnull (hC : CF X cc own Ts) {off : Int} {tgt t : Nat} (h7 : 7 ≤ t) (hdg : decode cc pc = .ok (.ifnonnull off, 3)) (hto : (pc : Int) + off = (tgt : Int)) (ht : Sd X tgt Γ τ kt) (hf : Sd X (pc + 3) Γ τ kf) : Sd X pc Γ (t :: τ) (o_iz (fun x => x ≠ -1) kt kf) := by
  intro lo st h cn sn H locs ls hk hH hL hS hl h1 h2
  obtain ⟨x, st, rfl, v1, hS⟩ := hS.c1
  have k1 := fun z => ht lo st h cn sn H locs ls (hk.1 z) hH hL hS hl h1 h2
  have k2 := fun z => hf lo st h cn sn H locs ls (hk.2 z) hH hL hS hl h1 h2
  have v2 := vt_obj h7 v1
  have v3 : x = -1 ∨ 0 ≤ x := v2.imp_right (fun z => hH.pos z)
  obtain ⟨p, l, e, R, s, m, args, below, meth, c, Q, G, nL⟩ := X
  obtain ⟨hx, hb, -⟩ := hC
  show W p l e R s m args below meth c H locs cn sn Q (F0 m pc ls (ev G t x :: es G τ st))
  rw [ev_obj G h7]
  rcases v3 with z | z
  · rw [if_pos (by omega)]
    exact lv_ifnonnullN hx hb hdg (k2 (fun w => w z))
  · rw [if_neg (by omega)]
    exact lv_ifnonnull hx hb hdg hto (k1 (by omega))
theorem sd_tsw (hC : CF X cc own Ts) {dflt lo hi : Int} {offs : Array Int} {len td : Nat} {ks : List tK} {kd : tK} (hdg : decode cc pc = .ok (.tableswitch dflt lo hi offs, len)) (hn : hi = lo + ks.length - 1) (htd : (pc : Int) + dflt = (td : Int)) (hj : ∀ (j : Nat) (kj : tK), ks[j]? = some kj → ∃ (off : Int) (tgt : Nat), offs[j]? = some off ∧ (pc : Int) + off = (tgt : Int) ∧ Sd X tgt Γ τ kj) (hd : Sd X td Γ τ kd) : Sd X pc Γ (0 :: τ) (o_tsw lo ks kd) := by
  intro lc st h cn sn H locs ls hk hH hL hS hl h1 h2
  obtain ⟨x, st, rfl, v1, hS⟩ := hS.c1
  have k2 := fun z => hd lc st h cn sn H locs ls (hk.2 z) hH hL hS hl h1 h2
  by_cases z : x < lo ∨ lo + ks.length ≤ x
  · have k3 := k2 z
    obtain ⟨p, l, e, R, s, m, args, below, meth, c, Q, G, nL⟩ := X
    obtain ⟨hx, hb, -⟩ := hC
    exact lv_tableOut hx hb hdg (by rw [toI v1]; omega) htd k3
  · have hlt : (x - lo).toNat < ks.length := by omega
    obtain ⟨off, tgt, e1, e2, hs⟩ := hj (x - lo).toNat ks[(x - lo).toNat] (List.getElem?_eq_getElem hlt)
    have k3 := hs lc st h cn sn H locs ls (hk.1 (x - lo).toNat _ (List.getElem?_eq_getElem hlt) (by omega)) hH hL hS hl h1 h2
    obtain ⟨p, l, e, R, s, m, args, below, meth, c, Q, G, nL⟩ := X
    obtain ⟨hx, hb, -⟩ := hC
    exact lv_tableIn hx hb hdg (by rw [toI v1]; omega) (by rw [toI v1]; omega) (by rw [toI v1]; exact e1) e2 k3
end SD3

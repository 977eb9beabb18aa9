/-! ===== Math.max and min, arraycopy, int[a][b] ===== -/
theorem hLe_Cp {h : tH} {a sp d dp z : Int} : hLe h (Cp h a sp d dp z) := fun _ _ q => q
theorem vt_Cp {h : tH} {a sp d dp z : Int} {t : Nat} {x : Int} : vt (Cp h a sp d dp z) t x ↔ vt h t x := by
  unfold vt
  split <;> first | rfl | exact Iff.rfl
theorem RH.copy {G : GT} {h : tH} {H H' : Heap} (r : RH G h H) {a sp d dp z : Int} (hka : Kd h a = some (100 + 0)) (hkd : Kd h d = some (100 + 0)) (h1 : 0 ≤ z ∧ 0 ≤ sp ∧ 0 ≤ dp ∧ sp + z ≤ Ln h a ∧ dp + z ≤ Ln h d)
    (ho : H'[d.toNat]? = some (arrV (gA G (100 + 0)) (Ln h d).toNat (fun j => .int (va_cpy (fun i => Int32.ofInt (Me h a i)) (fun i => Int32.ofInt (Me h d i)) sp.toNat dp.toNat z.toNat j)))) (hz : H'.size = H.size) (hoth : ∀ x : Nat, x ≠ d.toNat → H'[x]? = H[x]?) : RH G (Cp h a sp d dp z) H' := by
  have hd := r.2.2.2 d _ hkd
  have haa := (r.arr hka).2.2
  refine ⟨hz.trans r.1, r.2.1, fun x hx => ?_, fun b κ hb => ?_⟩
  · have := hd.1.1
    rw [hoth x (by omega)]
    exact r.2.2.1 x hx
  · have hb' : Kd h b = some κ := hb
    obtain ⟨g1, g2, g3⟩ := r.2.2.2 b κ hb'
    refine ⟨g1, ?_, ?_⟩
    · by_cases e9 : b = d
      · subst e9
        cases hb'.symm.trans hkd
        unfold cR
        rw [if_neg (by omega), show 100 + 0 - 100 = 0 by omega, ho]
        rw [show Ln (Cp h a sp b dp z) b = Ln h b from rfl]
        congr 2
        funext j
        show Value.int _ = Value.int (Int32.ofInt (Me (Cp h a sp b dp z) b j))
        rw [Me_Cp]
        unfold va_cpy
        by_cases ej : dp.toNat ≤ j ∧ j < dp.toNat + z.toNat
        · rw [if_pos ej, if_pos ⟨rfl, by omega, by omega⟩]
          show Value.int (Int32.ofInt (Me h a ((sp.toNat + (j - dp.toNat) : Nat) : Int))) = _
          rw [show ((sp.toNat + (j - dp.toNat) : Nat) : Int) = sp + ((j : Int) - dp) by omega]
        · rw [if_neg ej, if_neg (fun w => ej ⟨by omega, by omega⟩)]
      · have hbn : b.toNat ≠ d.toNat := by
          have := hd.1.1
          have := g1.1
          omega
        unfold cR at g2 ⊢
        have hme : ∀ j : Int, Me (Cp h a sp d dp z) b j = Me h b j := fun j => if_neg (fun w => e9 w.1)
        split
        · next hlt =>
          rw [if_pos hlt] at g2
          obtain ⟨r', e1, e2⟩ := g2
          refine ⟨r', e1, ?_⟩
          simp only [hme]
          exact e2.kept (hoth _ hbn)
        · next hlt =>
          rw [if_neg hlt] at g2
          simp only [hme]
          rw [hoth _ hbn]
          exact g2
    · unfold cT at g3 ⊢
      split
      · next hlt =>
        rw [if_pos hlt] at g3
        intro j hj
        rw [vt_Cp, Me_Cp]
        split
        · next w =>
          obtain ⟨rfl, -⟩ := w
          cases hb'.symm.trans hkd
          omega
        · exact g3 j hj
      · next hlt =>
        rw [if_neg hlt] at g3
        refine ⟨g3.1, fun j h3 h2 => ?_⟩
        rw [vt_Cp, Me_Cp]
        split
        · next w =>
          obtain ⟨rfl, w1, w2⟩ := w
          cases hb'.symm.trans hkd
          exact haa _ (by omega) (by omega)
        · exact g3.2 j h3 h2
theorem outerEq (c : ClassId) (N h0 : Nat) : ∀ i : Nat, Jvm.Free.Multi.outerC c N h0 i = arrV c N (fun j => if j < i then .ref (h0 + 1 + j) else .null)
  | 0 => by
    show ({ cls := c, slots := Array.replicate N .null, vm := .none } : Cell) = _
    rw [arrV_new]
    refine congrArg (arrV c N) (funext fun j => ?_)
    simp
  | i + 1 => by
    show (Jvm.Free.Multi.outerC c N h0 i).setSlot i (.ref (h0 + 1 + i)) = _
    rw [outerEq c N h0 i, arrV_store]
    refine congrArg (arrV c N) (funext fun j => ?_)
    by_cases e : j = i
    · subst e
      simp [updV]
    · by_cases h : j < i
      · simp [updV, e, h, Nat.lt_succ_of_lt h]
      · simp [updV, e, h, show ¬ j < i + 1 by omega]
/-- rows of ints -/
theorem RH.rows {G : GT} {h : tH} {H H' : Heap} (r : RH G h H) {a b : Int} (ha : 0 ≤ a ∧ a ≤ 1000) (hb : 0 ≤ b ∧ b ≤ 1000) (hz : H'.size = H.size + 1 + a.toNat) (hold : ∀ q : Nat, q < H.size → H'[q]? = H[q]?) (hout : H'[H.size]? = some (arrV (gA G 200) a.toNat (fun j => if j < a.toNat then .ref (H.size + 1 + j) else .null))) (hin : ∀ j : Nat, j < a.toNat → H'[H.size + 1 + j]? = some (arrV (gA G 100) b.toNat (fun _ => .int 0))) :
    RH G (Nm (Nw h 200 a (fun j => (Nx h : Int) + 1 + j)) 100 a.toNat b) H' ∧ hLe h (Nm (Nw h 200 a (fun j => (Nx h : Int) + 1 + j)) 100 a.toNat b) := by
  have hN : Nx (Nm (Nw h 200 a (fun j => (Nx h : Int) + 1 + j)) 100 a.toNat b) = Nx h + 1 + a.toNat := rfl
  have hK : ∀ q : Int, Kd (Nm (Nw h 200 a (fun j => (Nx h : Int) + 1 + j)) 100 a.toNat b) q = if ((Nx h + 1 : Nat) : Int) ≤ q ∧ q < ((Nx h + 1 : Nat) : Int) + (a.toNat : Nat) then some 100 else if q = (Nx h : Int) then some 200 else Kd h q := fun q => rfl
  have hL : ∀ q : Int, Ln (Nm (Nw h 200 a (fun j => (Nx h : Int) + 1 + j)) 100 a.toNat b) q = if ((Nx h + 1 : Nat) : Int) ≤ q ∧ q < ((Nx h + 1 : Nat) : Int) + (a.toNat : Nat) then b else if q = (Nx h : Int) then a else Ln h q := fun q => rfl
  have hM : ∀ q j : Int, Me (Nm (Nw h 200 a (fun j => (Nx h : Int) + 1 + j)) 100 a.toNat b) q j = if ((Nx h + 1 : Nat) : Int) ≤ q ∧ q < ((Nx h + 1 : Nat) : Int) + (a.toNat : Nat) then 0 else if q = (Nx h : Int) then (Nx h : Int) + 1 + j else Me h q j := fun q j => rfl
  generalize Nm (Nw h 200 a (fun j => (Nx h : Int) + 1 + j)) 100 a.toNat b = h' at hN hK hL hM ⊢
  have hsz := r.1
  have hle : hLe h h' := by
    intro q κ hq
    have := r.lt hq
    rw [hK, if_neg (by omega), if_neg (by omega)]
    exact hq
  refine ⟨⟨by rw [hN, hz, hsz], by rw [hN]; have := r.2.1; omega, fun q hq => ?_, fun q κ hq => ?_⟩, hle⟩
  · rw [hold q (by have := r.2.1; omega)]
    exact r.2.2.1 q hq
  · rw [hK] at hq
    have hB := r.2.1
    by_cases c1 : ((Nx h + 1 : Nat) : Int) ≤ q ∧ q < ((Nx h + 1 : Nat) : Int) + (a.toNat : Nat)
    · rw [if_pos c1] at hq
      cases hq
      refine ⟨⟨by omega, by rw [hN]; omega, by decide⟩, ?_, ?_⟩
      · unfold cR
        rw [if_neg (by decide), hL, if_pos c1]
        have hi := hin (q - (Nx h + 1)).toNat (by omega)
        rw [show H.size + 1 + (q - (Nx h + 1)).toNat = q.toNat by omega] at hi
        rw [hi]
        congr 2
        funext j
        rw [hM, if_pos c1]
        rfl
      · unfold cT
        rw [if_neg (by decide), hL, if_pos c1]
        refine ⟨⟨hb.1, by omega⟩, fun j _ _ => ?_⟩
        rw [hM, if_pos c1]
        exact inI_0
    · rw [if_neg c1] at hq
      by_cases c2 : q = (Nx h : Int)
      · rw [if_pos c2] at hq
        cases hq
        refine ⟨⟨by omega, by rw [hN]; omega, by decide⟩, ?_, ?_⟩
        · unfold cR
          rw [if_neg (by decide), hL, if_neg c1, if_pos c2]
          rw [show q.toNat = H.size by omega, hout]
          have e : ∀ j : Nat, j < a.toNat → (if j < a.toNat then Value.ref (H.size + 1 + j) else .null) = ev G (200 - 100) (Me h' q j) := by
            intro j hj
            rw [if_pos hj, hM, if_neg c1, if_pos c2, ev_obj G (by decide), if_neg (by omega)]
            exact congrArg Value.ref (show (H.size + 1 + j : Nat) = ((Nx h : Int) + 1 + (j : Int)).toNat by omega)
          have e2 : ∀ (f g : Nat → Value), (∀ j : Nat, j < a.toNat → f j = g j) → arrV (gA G 200) a.toNat f = arrV (gA G 200) a.toNat g := by
            intro f g hfg
            unfold arrV
            congr 2
            funext j
            exact hfg j.val j.isLt
          exact congrArg some (e2 _ _ e)
        · unfold cT
          rw [if_neg (by decide), hL, if_neg c1, if_pos c2]
          refine ⟨⟨ha.1, by omega⟩, fun j j1 j2 => ?_⟩
          rw [hM, if_neg c1, if_pos c2]
          exact Or.inr (by rw [hK, if_pos (by omega)])
      · rw [if_neg c2] at hq
        obtain ⟨g1, g2, g3⟩ := r.2.2.2 q κ hq
        have hme : ∀ j : Int, Me h' q j = Me h q j := fun j => by rw [hM, if_neg c1, if_neg c2]
        have hln : Ln h' q = Ln h q := by rw [hL, if_neg c1, if_neg c2]
        have hql : q.toNat < H.size := by omega
        refine ⟨⟨g1.1, by rw [hN]; omega, g1.2.2⟩, ?_, ?_⟩
        · unfold cR at g2 ⊢
          split
          · next hlt =>
            rw [if_pos hlt] at g2
            obtain ⟨r', e1, e2⟩ := g2
            refine ⟨r', e1, ?_⟩
            simp only [hme]
            exact e2.kept (hold _ hql)
          · next hlt =>
            rw [if_neg hlt] at g2
            simp only [hme, hln]
            rw [hold _ hql]
            exact g2
        · unfold cT at g3 ⊢
          split
          · next hlt =>
            rw [if_pos hlt] at g3
            intro j hj
            rw [hme]
            exact (g3 j hj).mono hle
          · next hlt =>
            rw [if_neg hlt] at g3
            rw [hln]
            refine ⟨g3.1, fun j j1 j2 => ?_⟩
            rw [hme]
            exact (g3.2 j j1 j2).mono hle
theorem inI_max {x y : Int} (a : inI x) (b : inI y) : inI (max x y) := by
  rcases Int.le_total x y with z | z
  · rw [Int.max_eq_right z]; exact b
  · rw [Int.max_eq_left z]; exact a
theorem inI_min {x y : Int} (a : inI x) (b : inI y) : inI (min x y) := by
  rcases Int.le_total x y with z | z
  · rw [Int.min_eq_left z]; exact a
  · rw [Int.min_eq_right z]; exact b
section SDA
variable {X : CX} {pc : Nat} {Γ Γ' : List (Nat × Nat)} {τ τf : List Nat} {k kt kf : tK} {cc : ByteArray} {own : String} {Ts : List Cond}
theorem sd_imax (hC : CF X cc own Ts) {index : Nat} (hw1 : Cond.methodLink own index Lib.Math.max.name ∈ Ts) (hw2 : Cond.static Lib.Math.max.name ∈ Ts) (hw3 : Cond.initialized "java/lang/Math" ∈ Ts) (hw4 : Cond.code Lib.Math.max.name Lib.Math.max.code 2 (some .int) ∈ Ts) (hR : 1 ≤ (xR X).frames ∧ 21 ≤ (xR X).locals) (hwd : wd τ ≤ 8) (hdg : decode cc pc = .ok (.invokestatic index, 3)) (hs : Sd X (pc + 3) Γ (0 :: τ) k) : Sd X pc Γ (0 :: 0 :: τ) (o_imax k) := by
  intro lo st h cn sn H locs ls hk hH hL hS hl h1 h2
  obtain ⟨y, x, st, rfl, v1, v2, hS⟩ := hS.c2
  have kk := hs lo (max x y :: st) h cn sn H locs ls hk.2 hH hL ⟨inI_max v2 v1, hS⟩ hl h1 h2
  have hls := hL.2.1.1
  obtain ⟨p, l, e, R, s, m, args, below, meth, c, Qf, G, nL⟩ := X
  obtain ⟨hx, hb, hml, hown, hts, hK, hlocks⟩ := hC
  have h9 : ((es G τ st).map fun v => v.category).sum = wd τ := es_wd G τ _ (RS.len hS)
  have h8 : 21 ≤ R.locals := hR.2
  show W p l e R s m args below meth c H locs cn sn Qf (F0 m pc ls (.int (Int32.ofInt y) :: .int (Int32.ofInt x) :: es G τ st))
  refine va_mmax hx hb (hml.trans hls.symm) hown (hts _ hw1) (hts _ hw2) (hts _ hw3) (hts _ hw4) hR.1 (by rw [h9]; omega) h1 h2 hdg ?_
  have e : (if Int32.ofInt x < Int32.ofInt y then Int32.ofInt y else Int32.ofInt x) = Int32.ofInt (max x y) := by
    by_cases z : x < y
    · rw [if_pos ((of_lt v2 v1).mpr z), Int.max_eq_right (by omega)]
    · rw [if_neg (fun w => z ((of_lt v2 v1).mp w)), Int.max_eq_left (by omega)]
  rw [e]
  exact kk
theorem sd_imin (hC : CF X cc own Ts) {index : Nat} (hw1 : Cond.methodLink own index Lib.Math.min.name ∈ Ts) (hw2 : Cond.static Lib.Math.min.name ∈ Ts) (hw3 : Cond.initialized "java/lang/Math" ∈ Ts) (hw4 : Cond.code Lib.Math.min.name Lib.Math.min.code 2 (some .int) ∈ Ts) (hR : 1 ≤ (xR X).frames ∧ 21 ≤ (xR X).locals) (hwd : wd τ ≤ 8) (hdg : decode cc pc = .ok (.invokestatic index, 3)) (hs : Sd X (pc + 3) Γ (0 :: τ) k) : Sd X pc Γ (0 :: 0 :: τ) (o_imin k) := by
  intro lo st h cn sn H locs ls hk hH hL hS hl h1 h2
  obtain ⟨y, x, st, rfl, v1, v2, hS⟩ := hS.c2
  have kk := hs lo (min x y :: st) h cn sn H locs ls hk.2 hH hL ⟨inI_min v2 v1, hS⟩ hl h1 h2
  have hls := hL.2.1.1
  obtain ⟨p, l, e, R, s, m, args, below, meth, c, Qf, G, nL⟩ := X
  obtain ⟨hx, hb, hml, hown, hts, hK, hlocks⟩ := hC
  have h9 : ((es G τ st).map fun v => v.category).sum = wd τ := es_wd G τ _ (RS.len hS)
  have h8 : 21 ≤ R.locals := hR.2
  show W p l e R s m args below meth c H locs cn sn Qf (F0 m pc ls (.int (Int32.ofInt y) :: .int (Int32.ofInt x) :: es G τ st))
  refine va_mmin hx hb (hml.trans hls.symm) hown (hts _ hw1) (hts _ hw2) (hts _ hw3) (hts _ hw4) hR.1 (by rw [h9]; omega) h1 h2 hdg ?_
  first
  | (have e : (if Int32.ofInt y < Int32.ofInt x then Int32.ofInt y else Int32.ofInt x) = Int32.ofInt (min x y) := by
      by_cases z : y < x
      · rw [if_pos ((of_lt v1 v2).mpr z), Int.min_eq_right (by omega)]
      · rw [if_neg (fun w => z ((of_lt v1 v2).mp w)), Int.min_eq_left (by omega)]
     rw [e]
     exact kk)
  | (have e : (if Int32.ofInt x > Int32.ofInt y then Int32.ofInt y else Int32.ofInt x) = Int32.ofInt (min x y) := by
      by_cases z : y < x
      · rw [if_pos ((of_lt v1 v2).mpr z), Int.min_eq_right (by omega)]
      · rw [if_neg (fun w => z ((of_lt v1 v2).mp w)), Int.min_eq_left (by omega)]
     rw [e]
     exact kk)
theorem sd_mna (hC : CF X cc own Ts) {index mc ms : Nat} (hw1 : Cond.classLink own index "[[I" ∈ Ts) (hw2 : Cond.arrayClass .int ∈ Ts) (hmc : (xR X).cells = mc) (hms : (xR X).slots = ms) (hdg : decode cc pc = .ok (.multianewarray index 2, 4)) (hs : Sd X (pc + 4) Γ (200 :: τ) k) : Sd X pc Γ (0 :: 0 :: τ) (o_mna mc ms k) := by
  intro lo st h cn sn H locs ls hk hH hL hS hl h1 h2
  obtain ⟨b, a, st, rfl, v1, v2, hS⟩ := hS.c2
  obtain ⟨⟨ha1, ha2, hb1, hb2⟩, ⟨hr1, hr2⟩, hk⟩ := hk
  have kk := fun (H' : Heap) (q1 : _) (q2 : hLe h _) => hs lo ((Nx h : Int) :: st) _ (cn + 1 + a.toNat) (sn + a.toNat + a.toNat * b.toNat) H' locs ls hk q1 (hL.mono q2) ⟨Or.inr (by
    show Kd (Nm (Nw h 200 a _) 100 a.toNat b) (Nx h : Int) = some 200
    show (if ((Nx h + 1 : Nat) : Int) ≤ (Nx h : Int) ∧ (Nx h : Int) < ((Nx h + 1 : Nat) : Int) + (a.toNat : Nat) then some 100 else if (Nx h : Int) = (Nx h : Int) then some 200 else Kd h (Nx h)) = some 200
    rw [if_neg (by omega), if_pos rfl]), hS.mono q2⟩ hl (by omega) (by omega)
  have hcn := clampI ha1 (by omega : a ≤ 2147483647)
  have hck := clampI hb1 (by omega : b ≤ 2147483647)
  have hsz := hH.1
  obtain ⟨p, l, e, R, s, m, args, below, meth, c, Qf, G, nL⟩ := X
  obtain ⟨hx, hb, hml, hown, hts, hK, hlocks⟩ := hC
  show W p l e R s m args below meth c H locs cn sn Qf (F0 m pc ls (.int (Int32.ofInt b) :: .int (Int32.ofInt a) :: es G τ st))
  intro T hT Xs
  have hmul : a.toNat * b.toNat ≤ 1000 * 1000 := Nat.mul_le_mul (by omega) (by omega)
  obtain ⟨vm₁, cA, comp, -, fA, fC, hO, -, X', step⟩ := Xs.multianewarray2F hx hown (ty := .int) (hts _ hw1) (show (Cond.arrayOver (.array .int)).before args s = true from hK.2.2.2.2.2.1) (hts _ hw2) (g := F0 m pc ls (.int (Int32.ofInt b) :: .int (Int32.ofInt a) :: es G τ st)) rfl (by rw [hb]; exact hdg) rfl (by rw [of_0, of_lt v2 inI_0]; omega) (by rw [of_0, of_lt v1 inI_0]; omega) (by rw [hcn]; omega) (by rw [hck]; show _ * 4 ≤ _; omega) (by rw [hck]; omega) rfl rfl (by rw [hcn]; rw [show R.cells = mc from hmc]; omega) (by rw [hcn, hck]; rw [show R.slots = ms from hms]; omega)
  rw [hcn, hck] at X' step
  have hcA : cA = gA G 200 := Option.some.inj (fA.symm.trans (hK.2.1 (200, .array .int) (by decide)).2)
  have hcB : comp = gA G 100 := Option.some.inj (fC.symm.trans (hK.2.1 (100, .int) (by decide)).2)
  subst hcA
  subst hcB
  generalize hF : Jvm.Free.Multi.fill (T.setVm vm₁) (gA G 200) (gA G 100) a.toNat b.toNat (defaultValue .int) a.toNat = F at X' step
  have hTh : (T.setVm vm₁).heap = H := hT
  obtain ⟨f1, f2, -, -⟩ := Jvm.Free.Multi.fill_facts (T.setVm vm₁) (gA G 200) (gA G 100) a.toNat b.toNat (defaultValue .int) a.toNat
  rw [hF, hTh] at f1 f2
  have hold : ∀ x : Nat, x < H.size → F.heap[x]? = H[x]? := fun x hx => by
    have := Jvm.Free.Multi.fill_old (T.setVm vm₁) (gA G 200) (gA G 100) a.toNat b.toNat (defaultValue .int) (a := x) (by rw [hTh]; exact hx) a.toNat
    rw [hF, hTh] at this
    exact this
  have hrow : ∀ j : Nat, j < a.toNat → F.heap[H.size + 1 + j]? = some (arrV (gA G 100) b.toNat (fun _ => .int 0)) := fun j hj => by
    have := Jvm.Free.Multi.fill_inner (T.setVm vm₁) (gA G 200) (gA G 100) a.toNat b.toNat (defaultValue .int) a.toNat j hj
    rw [hF, hTh] at this
    rw [this, ← arrV_new]
    rfl
  rw [outerEq] at f2
  obtain ⟨q1, q2⟩ := RH.rows (H' := F.heap) hH ⟨ha1, ha2⟩ ⟨hb1, hb2⟩ f1 hold f2 hrow
  have kk : W p l e R s m args below meth c F.heap locs (cn + 1 + a.toNat) (sn + a.toNat + a.toNat * b.toNat) Qf (F0 m (pc + 4) ls (ev G 200 (Nx h : Int) :: es G τ st)) := kk F.heap q1 q2
  rw [ev_obj G (by decide), if_neg (by omega), show ((Nx h : Int)).toNat = H.size by rw [hsz]; omega] at kk
  obtain ⟨t, a1, b1⟩ := kk F rfl X'
  refine ⟨t, step t ?_, b1⟩
  have e : T.heap.size = H.size := by rw [hT]
  rw [e]
  exact a1
theorem sd_acopy (hC : CF X cc own Ts) {index : Nat} (hw1 : Cond.methodLink own index arraycopyName ∈ Ts) (hw2 : Cond.native arraycopyName ∈ Ts) (hw3 : Cond.static arraycopyName ∈ Ts) (hw4 : Cond.initialized "java/lang/System" ∈ Ts) (hR : 1 ≤ (xR X).frames ∧ 26 ≤ (xR X).locals) (hwd : wd τ ≤ 8) (hdg : decode cc pc = .ok (.invokestatic index, 3)) (hs : Sd X (pc + 3) Γ τ k) : Sd X pc Γ (0 :: 0 :: 100 :: 0 :: 100 :: τ) (o_acopy k) := by
  intro lo st h cn sn H locs ls hk hH hL hS hl h1 h2
  obtain ⟨z, dp, d, st, rfl, v1, v2, v3, hS⟩ := hS.c3
  obtain ⟨sp, a, st, rfl, v4, v5, hS⟩ := hS.c2
  obtain ⟨⟨ha, hd, hz, hsp, hdp, hl1, hl2⟩, hk⟩ := hk
  have hka : Kd h a = some (100 + 0) := (vt_obj (by omega) v5).resolve_left ha
  have hkd : Kd h d = some (100 + 0) := (vt_obj (by omega) v3).resolve_left hd
  obtain ⟨a1, a2, a3⟩ := hH.arr hka
  obtain ⟨d1, d2, d3⟩ := hH.arr hkd
  have hpa := hH.pos hka
  have hpd := hH.pos hkd
  have hbd := (hH.2.2.2 d _ hkd).1.1
  have hcz := clampI hz (by omega : z ≤ 2147483647)
  have hcs := clampI hsp (by omega : sp ≤ 2147483647)
  have hcd := clampI hdp (by omega : dp ≤ 2147483647)
  have kk := fun (H' : Heap) (locs' : List Loc) (q1 : RH (xG X) (Cp h a sp d dp z) H') (q2 : ∀ q ∈ locs', gB (xG X) ≤ q.base) => hs lo st _ cn sn H' locs' ls hk q1 (hL.mono hLe_Cp) (hS.mono hLe_Cp) q2 h1 h2
  have hls := hL.2.1.1
  have hcopy := fun (H' : Heap) => RH.copy (H' := H') hH hka hkd ⟨hz, hsp, hdp, hl1, hl2⟩
  obtain ⟨p, l, e, R, s, m, args, below, meth, c, Qf, G, nL⟩ := X
  obtain ⟨hx, hb, hml, hown, hts, hK, hlocks⟩ := hC
  have h9 : ((es G τ st).map fun v => v.category).sum = wd τ := es_wd G τ _ (RS.len hS)
  have h8 : 26 ≤ R.locals := hR.2
  have eva : ev G (100 + 0) a = .ref a.toNat := by rw [ev_obj G (by omega), if_neg (by omega)]
  have evd : ev G (100 + 0) d = .ref d.toNat := by rw [ev_obj G (by omega), if_neg (by omega)]
  show W p l e R s m args below meth c H locs cn sn Qf (F0 m pc ls (.int (Int32.ofInt z) :: .int (Int32.ofInt dp) :: ev G (100 + 0) d :: .int (Int32.ofInt sp) :: ev G (100 + 0) a :: es G τ st))
  rw [eva, evd]
  have nn : ∀ w : Int, 0 ≤ w → inI w → ¬ Int32.ofInt w < 0 := fun w hw hi => by rw [of_0, of_lt hi inI_0]; omega
  intro T hT Xs
  obtain ⟨-, k0, hk0, cm0, hkk0⟩ := (hK.2.1 (100, .int) (by decide)).1 (Ln h a).toNat (fun j => .int (Int32.ofInt (Me h a j)))
  obtain ⟨-, k1, hk1, cm1, hkk1⟩ := (hK.2.1 (100, .int) (by decide)).1 (Ln h d).toNat (fun j => .int (Int32.ofInt (Me h d j)))
  obtain ⟨vm', X', step⟩ := Xs.arraycopy hx hown (hts _ hw1) (hts _ hw2) (hts _ hw3) (hts _ hw4) (src := a.toNat) (dst := d.toNat) (cs := arrV (gA G (100 + 0)) (Ln h a).toNat (fun j => .int (Int32.ofInt (Me h a j)))) (cd := arrV (gA G (100 + 0)) (Ln h d).toNat (fun j => .int (Int32.ofInt (Me h d j)))) (srcPos := Int32.ofInt sp) (destPos := Int32.ofInt dp) (n := Int32.ofInt z) (by rw [hT]; exact a1) (by rw [hT]; exact d1)
    (fun _ h => by cases h) (fun _ h => by cases h) (fun h => by cases h) (fun h => by cases h) hk0 hk1 hkk0 hkk1 rfl (nn _ hsp v4) (nn _ hdp v2) (nn _ hz v1)
    (by rw [toI v4, toI v1, arrV_size]; omega)
    (by rw [toI v2, toI v1, arrV_size]; omega)
    (fun vm₁ _ i hi => by
      rw [hcz] at hi
      rw [hcs]
      have e : (arrV (gA G (100 + 0)) (Ln h a).toNat (fun j => .int (Int32.ofInt (Me h a j)))).slots.getD (sp.toNat + i) .null = .int (Int32.ofInt (Me h a (sp.toNat + i : Nat))) := by
        rw [Array.getD_eq_getD_getElem?, arrV_read _ _ (by omega)]
        rfl
      refine ⟨?_, ?_⟩
      · rw [e]
        rfl
      · rw [e]
        exact trivial)
    (g := F0 m pc ls (.int (Int32.ofInt z) :: .int (Int32.ofInt dp) :: .ref d.toNat :: .int (Int32.ofInt sp) :: .ref a.toNat :: es G τ st)) rfl (hls.trans hml.symm) (rest := es G τ st) rfl (by rw [hb]; exact hdg) hR.1 (by show 2 * 0 + _ + (7 + 11) ≤ _; rw [h9]; omega)
  have e1 : copied (arrV (gA G (100 + 0)) (Ln h a).toNat (fun j => .int (Int32.ofInt (Me h a j)))) (arrV (gA G (100 + 0)) (Ln h d).toNat (fun j => .int (Int32.ofInt (Me h d j)))) (Int32.ofInt sp) (Int32.ofInt dp) (Int32.ofInt z) = arrV (gA G (100 + 0)) (Ln h d).toNat (fun j => .int (va_cpy (fun i => Int32.ofInt (Me h a i)) (fun i => Int32.ofInt (Me h d i)) sp.toNat dp.toNat z.toNat j)) := by
    have := va_copied (fun z => Value.int z) (gA G (100 + 0)) (gA G (100 + 0)) (n0 := (Ln h a).toNat) (n1 := (Ln h d).toNat) (sp := sp.toNat) (dp := dp.toNat) (n := z.toNat) (fun i => Int32.ofInt (Me h a i)) (fun i => Int32.ofInt (Me h d i)) (by omega)
    rw [← hcs, ← hcd, ← hcz] at this
    rw [← hcs, ← hcd, ← hcz]
    exact this
  rw [e1] at X' step
  have hlt : d.toNat < H.size := (Array.getElem?_eq_some_iff.mp d1).1
  generalize hcell : arrV (gA G (100 + 0)) (Ln h d).toNat (fun j => .int (va_cpy (fun i => Int32.ofInt (Me h a i)) (fun i => Int32.ofInt (Me h d i)) sp.toNat dp.toNat z.toNat j)) = cellN at X' step
  have hheap : ((T.setVm vm').setCell d.toNat cellN).heap = H.setIfInBounds d.toNat cellN := by rw [← hT]; rfl
  have hR9 := hcopy (H.setIfInBounds d.toNat cellN) (by rw [← hcell]; simp [Array.getElem?_setIfInBounds, hlt]; rfl) (by simp) (fun x hx9 => by simp [Array.getElem?_setIfInBounds, Ne.symm hx9])
  obtain ⟨t, b1, b2⟩ := kk (H.setIfInBounds d.toNat cellN) _ hR9 (fun q hq => by
    rcases List.mem_append.mp hq with w | w
    · exact hl q w
    · obtain ⟨w1, -, w2⟩ := List.mem_map.mp w
      rw [← w2]
      show gB G ≤ d.toNat
      have hbd : (gB G : Int) ≤ d := hbd
      omega) _ hheap X'
  exact ⟨t, step t b1, b2⟩
end SDA

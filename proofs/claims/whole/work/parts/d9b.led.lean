/-! ===== led: it throws, the law catches it ===== -/
def EX (U : State) : Prop := va_Nw (.castable "java/util/NoSuchElementException" "java/util/NoSuchElementException") U ∧ va_Nw (.declares ⟨"java/lang/RuntimeException", "<init>", "()V"⟩) U ∧ va_Nw (.declares ⟨"java/lang/Exception", "<init>", "()V"⟩) U ∧ va_Nw (.declares ⟨"java/lang/Throwable", "<init>", "()V"⟩) U
theorem EX.warm {u U : State} (hW : u.WarmedH U.vm) (h : EX u) : EX U := ⟨va_Nw.warmC hW h.1, va_Nw.warmD hW h.2.1, va_Nw.warmD hW h.2.2.1, va_Nw.warmD hW h.2.2.2⟩
theorem EX.same {u U : State} (hv : u.vm = U.vm) (h : EX u) : EX U := ⟨va_Nw.same rfl hv h.1, va_Nw.same rfl hv h.2.1, va_Nw.same rfl hv h.2.2.1, va_Nw.same rfl hv h.2.2.2⟩
theorem tb_ex : ∀ w ∈ [Cond.castable "java/util/NoSuchElementException" "java/util/NoSuchElementException", .declares ⟨"java/lang/RuntimeException", "<init>", "()V"⟩, .declares ⟨"java/lang/Exception", "<init>", "()V"⟩, .declares ⟨"java/lang/Throwable", "<init>", "()V"⟩], w ∈ lw_tbl := by decide +kernel
theorem EX.of {args : Array Value} {s : State} (h : ∀ w ∈ lw_tbl, w.before args s = true) : EX s := ⟨va_Nw.of rfl (h _ (tb_ex _ (List.mem_of_getElem? (i := 0) rfl))), va_Nw.of rfl (h _ (tb_ex _ (List.mem_of_getElem? (i := 1) rfl))), va_Nw.of rfl (h _ (tb_ex _ (List.mem_of_getElem? (i := 2) rfl))), va_Nw.of rfl (h _ (tb_ex _ (List.mem_of_getElem? (i := 3) rfl)))⟩
/-- the heap has grown, what was there is as it was -/
theorem RH.grow {G : GT} {h : tH} {H H' : Heap} (r : RH G h H) (hz : H.size ≤ H'.size) (ho : ∀ q : Nat, q < H.size → H'[q]? = H[q]?) : RH G (h.1, h.2.1, h.2.2.1, H'.size) H' := by
  have hle : hLe h (h.1, h.2.1, h.2.2.1, H'.size) := fun _ _ q => q
  refine ⟨rfl, ?_, fun q hq => ?_, fun b κ hb => ?_⟩
  · show gB G ≤ H'.size
    have := r.2.1
    have := r.1
    omega
  · rw [ho q (by have := r.2.1; have := r.1; omega)]
    exact r.2.2.1 q hq
  · obtain ⟨g1, g2, g3⟩ := r.2.2.2 b κ hb
    have hbl : b.toNat < H.size := by
      have := r.1
      omega
    refine ⟨⟨g1.1, ?_, g1.2.2⟩, ?_, ?_⟩
    · show b < (H'.size : Int)
      omega
    · unfold cR at g2 ⊢
      split
      · next hlt =>
        rw [if_pos hlt] at g2
        obtain ⟨r', e1, e2⟩ := g2
        exact ⟨r', e1, e2.kept (ho _ hbl)⟩
      · next hlt =>
        rw [if_neg hlt] at g2
        rw [ho _ hbl]
        exact g2
    · unfold cT at g3 ⊢
      split
      · next hlt =>
        rw [if_pos hlt] at g3
        exact fun k hk => (g3 k hk).mono hle
      · next hlt =>
        rw [if_neg hlt] at g3
        exact ⟨g3.1, fun j h1 h2 => (g3.2 j h1 h2).mono hle⟩
/-- where a method ends that may throw -/
def XT (X : CX) (Q : tQ) (XC : String → State → State → Prop) : Prop := match X with
  | (_, _, _, R, s, _, args, below, meth, _, Qf, G, _) => Qf = vx_MQ below (mQ G (gK G) (some 0) Q) XC args s R.cells R.slots (fun q => gB G ≤ q) ∧ meth.sig.returnType = some .int
def led_X (G : GT) (h : tH) (Qx : xH → Prop) : String → State → State → Prop := fun E _ t => E = "java/util/NoSuchElementException" ∧ ∃ h' : tH, Qx (spl h') ∧ RH G h' t.heap ∧ hLe h h'
def mPx (G : GT) (h : tH) (τs : List Nat) (xs : List Int) : Array Value → State → Prop := va_Pc (es G τs xs) (fun U => RH G h U.heap ∧ KU G U ∧ EX U)
theorem mPx_blind (G : GT) (h : tH) (τs : List Nat) (xs : List Int) : FrameBlind (mPx G h τs xs) := fun _ U _ _ q => ⟨q.1, q.2.1, KU.same (u := U) rfl q.2.2.1, EX.same (u := U) rfl q.2.2.2⟩
def rm_xl : Room := { frames := 6, cells := 1, slots := 6, locals := 81 }
def rm_ll : Room := { frames := 7, cells := 1, slots := 6, locals := 104 }
section XLED
variable {X : CX} {pc : Nat} {Γ : List (Nat × Nat)} {τ : List Nat} {k : xK} {cc : ByteArray} {own : String} {Ts : List Cond}
theorem su_xret (hC : CF X cc own Ts) {Q : xQ} {Q0 : tQ} {XC : String → State → State → Prop} (hT : XT X Q0 XC) (hQ : ∀ v h', Q v (spl h') → Q0 v h') (hdg : decode cc pc = .ok (.ireturn, 1)) : SdS X pc Γ [0] (x_ret Q) := by
  intro lo st h cn sn H locs ls hk hH hL hS hl h1 h2
  obtain ⟨p, l, e, R, s, m, args, below, meth, c, Qf, G, nL⟩ := X
  obtain ⟨rfl, hr⟩ := hT
  have hC' : CF (p, l, e, R, s, m, args, below, meth, c, MQ below (mQ G (gK G) (some 0) Q0) args s R.cells R.slots (fun q => gB G ≤ q), G, nL) cc own Ts := hC
  have hs : SdS (p, l, e, R, s, m, args, below, meth, c, MQ below (mQ G (gK G) (some 0) Q0) args s R.cells R.slots (fun q => gB G ≤ q), G, nL) pc Γ [0] (x_ret Q) := su_ireturn hC' ⟨Q0, ⟨rfl, hr⟩, hQ⟩ hdg
  exact vx_ret (hs lo st h cn sn H locs ls hk hH hL hS hl h1 h2)
theorem led_w1 : ∀ w ∈ (vx_at0 RX8 298 "java/util/NoSuchElementException" ["java/lang/RuntimeException", "java/lang/Exception"]).filter goodWord, w ∈ lw_tbl := by decide +kernel
theorem led_w2 : ∀ w ∈ (vx_at0 RX8 298 "java/util/NoSuchElementException" ["java/lang/RuntimeException", "java/lang/Exception"]).filter (fun w => !goodWord w), w ∈ [Cond.castable "java/util/NoSuchElementException" "java/util/NoSuchElementException", .declares ⟨"java/lang/RuntimeException", "<init>", "()V"⟩, .declares ⟨"java/lang/Exception", "<init>", "()V"⟩, .declares ⟨"java/lang/Throwable", "<init>", "()V"⟩] := by decide +kernel
theorem led_w3 : ∀ w ∈ Cond.classLink RX8 296 "java/util/NoSuchElementException" :: Cond.initialized "java/util/NoSuchElementException" :: vx_at0 RX8 298 "java/util/NoSuchElementException" ["java/lang/RuntimeException", "java/lang/Exception"], vx_ot w = true := by decide +kernel
theorem led_w4 : ∀ w ∈ [Cond.classLink RX8 296 "java/util/NoSuchElementException", .initialized "java/util/NoSuchElementException", .classLink RL 13 "java/util/NoSuchElementException", .methodLink RL 7 yX8_led, .instanceMethod yX8_led, .selects RX8 yX8_led yX8_led, .initialized RX8, .code yX8_led cX8_led 4 (some .int), .methodLink RL 182 yL_led, .static yL_led, .initialized RL, .codeWith yL_led cL_led 4 (some .int) [(0, 9, 12, 13)]], w ∈ WALL := in_of (by decide +kernel)
theorem led_hd : yX8_led.cls ≠ "java/lang/invoke/MethodHandle" ∧ yX8_led.cls ≠ "java/lang/invoke/VarHandle" ∧ (parseMethodDescriptor yX8_led.desc).map (fun d => d.parameters.length) = some 1 := by decide +kernel
theorem led_hdL : yL_led.cls ≠ "java/lang/invoke/MethodHandle" ∧ yL_led.cls ≠ "java/lang/invoke/VarHandle" ∧ (parseMethodDescriptor yL_led.desc).map (fun d => d.parameters.length) = some 3 := by decide +kernel
theorem led_fit : Bundle.fit "java/util/NoSuchElementException" = true ∧ ∀ n ∈ ["java/lang/RuntimeException", "java/lang/Exception"], Bundle.fit n = true := by decide +kernel
theorem su_thr {Q0 : tQ} {Qx : xH → Prop} (hC : CF X cX8_led RX8 WALL) (hE : EX X.2.2.2.2.1) (hl : X.2.1.stackTraces = false) (hR : xR X = rm_xl) (hT : XT X Q0 (led_X (xG X) (gK (xG X)) Qx)) (htab : ∀ x ∈ X.2.2.2.2.2.2.2.2.2.1.exceptionTable.toList, False) (hH0 : RH (xG X) (gK (xG X)) X.2.2.2.2.1.heap) : SdS X 46 Γ [] (x_room 1 6 1 6 (x_thr Qx)) := by
  intro lo st h cn sn H locs ls hk hH hL hS hloc h1 h2
  have hk' : (cn + 1 ≤ 1 ∧ sn + 6 ≤ 6) ∧ ∀ N : Nat, Nx h ≤ N → Qx (vLg h, vRf h, vFd h, vEl h, N) := hk
  obtain ⟨⟨c1, c2⟩, hq⟩ := hk'
  cases st with
  | cons _ _ => exact False.elim hS
  | nil =>
    have hls := hL.2.1.1
    have hgk := hL.2.2.2
    obtain ⟨p, l, e, R, s, m, args, below, meth, c, Qf, G, nL⟩ := X
    obtain ⟨hx, hb, hml, hown, hts, hK, hlocks⟩ := hC
    have hT : Qf = vx_MQ below (mQ G (gK G) (some 0) Q0) (led_X G (gK G) Qx) args s R.cells R.slots (fun q => gB G ≤ q) ∧ meth.sig.returnType = some .int := hT
    obtain ⟨rfl, hr⟩ := hT
    have hR : R = rm_xl := hR
    subst hR
    have hH0 : RH G (gK G) s.heap := hH0
    have hH : RH G h H := hH
    have hl : l.stackTraces = false := hl
    have hE : EX s := hE
    have hls : ls.size = nL := hls
    have hgk : hLe (gK G) h := hgk
    have hKT : KT G s := hK.2.2.2.2.2.2
    obtain ⟨-, -, -, -, hU, hN⟩ := hKT
    have hq0 : ∀ a : Nat, a < (gH G).size → ¬ (fun q : Nat => gB G ≤ q) a → s.heap[a]? = (gH G)[a]? := fun a _ z => hH0.2.2.1 a (Nat.lt_of_not_le z)
    have hU0 := hU.kept hq0
    have hN0 := hN.kept hq0
    refine (?_ : W p l e rm_xl s m args below meth c H locs cn sn (vx_MQ below (mQ G (gK G) (some 0) Q0) (led_X G (gK G) Qx) args s rm_xl.cells rm_xl.slots (fun q => gB G ≤ q)) (F0 m 46 ls []))
    intro T hT0 Y
    have hsz : s.heap.size ≤ H.size := by
      have := Y.same.2.1
      rw [← hT0]
      exact this
    have hat : ∀ w ∈ vx_at0 RX8 298 "java/util/NoSuchElementException" ["java/lang/RuntimeException", "java/lang/Exception"], w.before args s = true := vx_hat (fun w hw => hts w (List.mem_filter.mpr ⟨led_w1 w hw, (List.mem_filter.mp hw).2⟩)) led_w2 (vx_c (va_Nw.use rfl hE.1) (vx_c (va_Nw.use rfl hE.2.1) (vx_c (va_Nw.use rfl hE.2.2.1) (vx_c (va_Nw.use rfl hE.2.2.2) vx_n))))
    have hSS : va_S (fun q => gB G ≤ q) s.heap H locs := ⟨hsz, fun q _ z => by rw [hH.2.2.1 q (Nat.lt_of_not_le z), hH0.2.2.1 q (Nat.lt_of_not_le z)], hloc⟩
    exact vx_throw0 (own := RX8) (cls := "java/util/NoSuchElementException") (names := ["java/lang/RuntimeException", "java/lang/Exception"]) (ik := 296) (ic := 298) (mc := rm_xl.cells) (ms := rm_xl.slots) (A := fun q => gB G ≤ q) hx hb hl hown led_fit.1 led_fit.2 (hts _ (led_w4 _ (List.mem_of_getElem? (i := 0) rfl))) (hts _ (led_w4 _ (List.mem_of_getElem? (i := 1) rfl))) hat led_w3 hU0 hN0 hSS (hls.trans hml.symm) dX8_led_46 dX8_led_49 dX8_led_50 dX8_led_53 (fun x hx => (htab x hx).elim) (by decide) (by decide) c1 c2 hlocks (fun t _ g1 g2 => ⟨rfl, (h.1, h.2.1, h.2.2.1, t.heap.size), hq _ (by rw [← hH.1]; exact g1), hH.grow g1 g2, hgk⟩) (fun z hz => hloc z hz) c1 c2 T hT0 Y
end XLED
/-! the walk of led -/
def B_xl_46 (Qx : xH → Prop) : xK := x_room 1 6 1 6 (x_thr Qx)
def b_xl (Q : xQ) (Qx : xH → Prop) (k4 : xK) : xK := x_load 1 (x_iz (fun x => x < 0) (B_xl_46 Qx) (x_load 3 (x_load 0 (x_getR 2 (x_getF 4 (x_ic (fun x y => y ≤ x) (B_xl_46 Qx) (x_load 0 (x_getR 6 (x_load 3 (x_aldR (x_getF 0 (x_iz (fun x => x ≠ 0) (x_iinc 3 1 k4) (x_load 2 (x_iz (fun x => x ≠ 0) (x_iinc 2 (-1) (x_iinc 3 1 k4)) (x_load 3 (x_ret Q))))))))))))))))
def L_xl_4 (Q : xQ) (Qx : xH → Prop) : xK := x_loop (b_xl Q Qx)
def E_xl (Q : xQ) (Qx : xH → Prop) : xK := x_load 1 (x_store 2 (x_const 0 (x_store 3 (L_xl_4 Q Qx))))
def b_xo (Q : xQ) (Qx : xH → Prop) (k4 : xK) : xK := x_load 1 (x_iz (fun x => x < 0) (B_X8_led_46 Q Qx) (x_load 3 (x_load 0 (x_getR 2 (x_getF 4 (x_ic (fun x y => y ≤ x) (B_X8_led_46 Q Qx) (x_load 0 (x_getR 6 (x_load 3 (x_aldR (x_getF 0 (x_iz (fun x => x ≠ 0) (B_X8_led_40 Q Qx k4) (x_load 2 (x_iz (fun x => x ≠ 0) (x_iinc 2 (-1) (B_X8_led_40 Q Qx k4)) (x_load 3 (x_ret Q))))))))))))))))
theorem xl_b {Q : xQ} {Qx : xH → Prop} {h : xH} {k k' : xK} (hk : ∀ l st, k l st h 0 0 → k' l st h 0 0) : ∀ l st, b_xo Q Qx k l st h 0 0 → b_xl Q Qx k' l st h 0 0 := by
  intro l st hA
  obtain ⟨a1, a2⟩ := hA
  refine And.intro (fun z => And.intro ⟨by decide, by decide⟩ (a1 z)) (fun z => ?_)
  obtain ⟨b1, b2, b3, b4⟩ := a2 z
  refine And.intro b1 (And.intro b2 (And.intro (fun y => And.intro ⟨by decide, by decide⟩ (b3 y)) (fun y => ?_)))
  obtain ⟨c1, c2, c3, c4, c5, c6⟩ := b4 y
  refine And.intro c1 (And.intro c2 (And.intro c3 (And.intro c4 (And.intro (fun w => ?_) (fun w => ?_)))))
  · obtain ⟨d1, d2⟩ := c5 w
    exact And.intro d1 (hk _ _ d2)
  · obtain ⟨e1, e2⟩ := c6 w
    refine And.intro (fun v => ?_) (fun v => e2 v)
    obtain ⟨f1, f2, f3⟩ := e1 v
    exact And.intro f1 (And.intro f2 (hk _ _ f3))
theorem xl_it {Q : xQ} {Qx : xH → Prop} {h : xH} : ∀ (j : Nat) (l st : List Int), x_it (b_xo Q Qx) j l st h 0 0 → x_it (b_xl Q Qx) j l st h 0 0 := by
  intro j
  induction j with
  | zero => exact fun _ _ z => z
  | succ j ih => exact fun l st z => xl_b ih l st z
theorem xl_E {Q : xQ} {Qx : xH → Prop} {xs : List Int} {h : xH} (hT : T_X8_led2 xs h Q Qx) : E_xl Q Qx (loOf [18, 0] 4 xs) [] h 0 0 := by
  obtain ⟨j, hj⟩ := hT
  exact ⟨j, xl_it j _ _ hj⟩
set_option maxRecDepth 100000 in
set_option maxHeartbeats 4000000 in
theorem S_xl {X : CX} {Q : xQ} {Qx : xH → Prop} (hC : CF X cX8_led RX8 WALL) (e2 : xn X = 4) (hret : ∀ {pc : Nat} {Γ : List (Nat × Nat)}, decode cX8_led pc = .ok (.ireturn, 1) → SdS X pc Γ [0] (x_ret Q)) (hthr : ∀ Γ : List (Nat × Nat), SdS X 46 Γ [] (x_room 1 6 1 6 (x_thr Qx))) : SdS X 0 [(0, 18), (1, 0)] [] (E_xl Q Qx) := by
  have S_40 : ∀ k4 : xK, SdS X 4 [(0, 18), (1, 0), (2, 0), (3, 0)] [] k4 → SdS X 40 [(0, 18), (1, 0), (2, 0), (3, 0)] [] (x_iinc 3 1 k4) := by
    intro k4 h4
    refine su_iinc (Γ' := [(0, 18), (1, 0), (2, 0), (3, 0)]) hC dX8_led_40 (by decide) (by rw [e2]; decide) (by decide) (?_ : SdS X 43 [(0, 18), (1, 0), (2, 0), (3, 0)] [] _)
    exact su_goto (tgt := 4) hC dX8_led_43 rfl h4
  have S_4 : SdS X 4 [(0, 18), (1, 0), (2, 0), (3, 0)] [] (L_xl_4 Q Qx) := by
    unfold L_xl_4
    refine SdS.loop (fun k4 h4 => ?_)
    unfold b_xl
    refine su_iload_n hC dX8_led_4 rfl (by decide) (?_ : SdS X 5 [(0, 18), (1, 0), (2, 0), (3, 0)] [0] _)
    refine su_if_lt (tgt := 46) hC dX8_led_5 rfl (hthr _) (?_ : SdS X 8 [(0, 18), (1, 0), (2, 0), (3, 0)] [] _)
    refine su_iload_n hC dX8_led_8 rfl (by decide) (?_ : SdS X 9 [(0, 18), (1, 0), (2, 0), (3, 0)] [0] _)
    refine su_aload_n hC 18 dX8_led_9 rfl (by decide) (by decide) (?_ : SdS X 10 [(0, 18), (1, 0), (2, 0), (3, 0)] [18, 0] _)
    refine su_getR hC (ci := 8) (j := 2) (C := RX8) (T := TX8) (N := 18) rfl rfl (by decide) in_X8 wl_2_110 rfl dX8_led_10 (?_ : SdS X 13 [(0, 18), (1, 0), (2, 0), (3, 0)] [11, 0] _)
    refine su_getF hC (ci := 1) (j := 4) (C := RX1) (T := TX1) (N := 12) rfl rfl (by decide) in_X1 wl_1_98 rfl dX8_led_13 (?_ : SdS X 16 [(0, 18), (1, 0), (2, 0), (3, 0)] [0, 0] _)
    refine su_icmp_ge (tgt := 46) hC dX8_led_16 rfl (hthr _) (?_ : SdS X 19 [(0, 18), (1, 0), (2, 0), (3, 0)] [] _)
    refine su_aload_n hC 18 dX8_led_19 rfl (by decide) (by decide) (?_ : SdS X 20 [(0, 18), (1, 0), (2, 0), (3, 0)] [18] _)
    refine su_getR hC (ci := 8) (j := 6) (C := RX8) (T := TX8) (N := 18) rfl rfl (by decide) in_X8 wl_2_114 rfl dX8_led_20 (?_ : SdS X 23 [(0, 18), (1, 0), (2, 0), (3, 0)] [117] _)
    refine su_iload_n hC dX8_led_23 rfl (by decide) (?_ : SdS X 24 [(0, 18), (1, 0), (2, 0), (3, 0)] [0, 117] _)
    refine su_aaload (e := 17) hC (List.mem_of_getElem? (i := 6) rfl) rfl rfl rfl dX8_led_24 (?_ : SdS X 25 [(0, 18), (1, 0), (2, 0), (3, 0)] [17] _)
    refine su_getF hC (ci := 7) (j := 0) (C := RX7) (T := TX7) (N := 7) rfl rfl (by decide) in_X7 wl_1_235 rfl dX8_led_25 (?_ : SdS X 28 [(0, 18), (1, 0), (2, 0), (3, 0)] [0] _)
    refine su_if_ne (tgt := 40) hC dX8_led_28 rfl (S_40 k4 h4) (?_ : SdS X 31 [(0, 18), (1, 0), (2, 0), (3, 0)] [] _)
    refine su_iload_n hC dX8_led_31 rfl (by decide) (?_ : SdS X 32 [(0, 18), (1, 0), (2, 0), (3, 0)] [0] _)
    refine su_if_ne (tgt := 37) hC dX8_led_32 rfl (?_ : SdS X 37 [(0, 18), (1, 0), (2, 0), (3, 0)] [] _) (?_ : SdS X 35 [(0, 18), (1, 0), (2, 0), (3, 0)] [] _)
    · exact su_iinc (Γ' := [(0, 18), (1, 0), (2, 0), (3, 0)]) hC dX8_led_37 (by decide) (by rw [e2]; decide) (by decide) (S_40 k4 h4)
    · refine su_iload_n hC dX8_led_35 rfl (by decide) (?_ : SdS X 36 [(0, 18), (1, 0), (2, 0), (3, 0)] [0] _)
      exact hret dX8_led_36
  unfold E_xl
  refine su_iload_n hC dX8_led_0 rfl (by decide) (?_ : SdS X 1 [(0, 18), (1, 0)] [0] _)
  refine su_istore_n (Γ' := [(0, 18), (1, 0), (2, 0)]) hC dX8_led_1 rfl (by rw [e2]; decide) (by decide) (?_ : SdS X 2 [(0, 18), (1, 0), (2, 0)] [] _)
  refine su_iconst hC dX8_led_2 ⟨by decide, by decide⟩ (?_ : SdS X 3 [(0, 18), (1, 0), (2, 0)] [0] _)
  refine su_istore_n (Γ' := [(0, 18), (1, 0), (2, 0), (3, 0)]) hC dX8_led_3 rfl (by rw [e2]; decide) (by decide) (?_ : SdS X 4 [(0, 18), (1, 0), (2, 0), (3, 0)] [] _)
  exact S_4
/-! contracts -/
theorem x_enter {p : Program} {l : Launch} {e : Env} {R : Room} {s : State} {m : MethodId} {below : List Frame} {meth : Method} {c : Code} {Qf : State → Prop} {G : GT} {h : tH} {mx : Nat} {τs : List Nat} {xs : List Int} {B : xK} (hmx : wd τs ≤ mx) (hRS : RS h τs xs) (hH : RH G h s.heap) (hB : B (loOf τs mx xs) [] (spl h) 0 0)
    (hs : SdS (p, l, e, R, s, m, (es G τs xs).toArray, below, meth, c, Qf, (gD G, gA G, gS G, gX G, gB G, gH G, gV G, h), mx) 0 (gam 0 τs) [] B) : W p l e R s m (es G τs xs).toArray below meth c s.heap [] 0 0 Qf (entryFrame m (es G τs xs).toArray mx) := by
  have hlen := RS.len hRS
  obtain ⟨pl1, pl2⟩ := plo_len G τs xs hlen
  have hl := lv_entry (es G τs xs) (n := mx) (by rw [← pl1, pl2]; exact hmx)
  rw [lg_entry_eq]
  generalize (lg_sl (es G τs xs) ++ List.replicate (mx - (lg_sl (es G τs xs)).length) Slot.unset).toArray = ls at hl ⊢
  have hga := gam_args G τs xs [] (List.replicate (mx - (plo τs xs).length) 0) hlen
  refine hs (loOf τs mx xs) [] h 0 0 s.heap [] ls hB hH ⟨?_, ?_, ?_, hLe.rf⟩ trivial (fun q hq => by cases hq) (Nat.zero_le _) (Nat.zero_le _)
  · unfold loOf
    rw [List.length_append, List.length_replicate, pl2]
    dsimp only [xn]
    omega
  · have e9 : (gam 0 τs).map (fun q => (q.1, ev G q.2 ((loOf τs mx xs).getD q.1 0))) = lv_args 0 (es G τs xs) := hga
    show lv_has ls mx ((gam 0 τs).map fun q => (q.1, ev G q.2 ((loOf τs mx xs).getD q.1 0)))
    rw [e9]
    exact hl
  · exact gam_vt τs xs [] _ hRS
theorem M_led {l : Launch} (hl : l.stackTraces = false) (G : GT) (xs : List Int) (h : tH) (Q : tQ) (Q' : xQ) (Qx : xH → Prop) (hQ : ∀ v h', Q' v (spl h') → Q v h') (hT : T_X8_led2 xs (spl h) Q' Qx) (hRS : RS h [18, 0] xs) : vx_Met l yX8_led (Cond.code yX8_led cX8_led 4 (some .int) :: WALL) rm_xl (mPx G h [18, 0] xs) (mQ G h (some 0) Q) (led_X G h Qx) rm_xl.cells rm_xl.slots (fun q => gB G ≤ q) := by
  refine vx_ofW (cc := cX8_led) (maxL := 4) (ret := some .int) (by decide +kernel) rfl ?_
  intro p e s m args below meth c s₁ Bd hml htab hv
  obtain ⟨rfl, hH, hK, hE⟩ := hv
  have hts := atoms_spec (ws := Cond.code yX8_led cX8_led 4 (some .int) :: WALL) Bd.pre
  have hC : CF (p, l, e, rm_xl, s, m, (es G [18, 0] xs).toArray, below, meth, c, vx_MQ below (mQ G h (some 0) Q) (led_X G h Qx) (es G [18, 0] xs).toArray s rm_xl.cells rm_xl.slots (fun q => gB G ≤ q), (gD G, gA G, gS G, gX G, gB G, gH G, gV G, h), 4) cX8_led RX8 WALL := ⟨Bd.exec, Bd.bytes, hml, findClass_of_methodNamed Bd.named, fun w hw => hts w (List.mem_cons_of_mem _ hw), hK, Bd.notSynchronized⟩
  refine x_enter (τs := [18, 0]) (B := E_xl Q' Qx) (by decide) hRS hH (xl_E hT) ?_
  exact S_xl hC rfl (fun {pc Γ} hd => su_xret hC (Q0 := Q) (XC := led_X G h Qx) ⟨rfl, Bd.returns⟩ hQ hd) (fun Γ => su_thr (Q0 := Q) hC hE hl rfl ⟨rfl, Bd.returns⟩ htab hH)
theorem met_of_x {l : Launch} {y : MethodName} {ws : List Cond} {rm : Room} {Pc : Array Value → State → Prop} {Qc : Array Value → State → Outcome → State → Prop} {XC : String → State → State → Prop} {mc ms : Nat} {free : Addr → Prop} (hM : vx_Met l y ws rm Pc Qc XC mc ms free) (hX : ∀ E s t, ¬ XC E s t) : Met l y ws rm Pc Qc mc ms free := by
  intro p e ha hc hk s m args below hf happ hP hKK
  obtain ⟨n, o, h1, h2, h3, h4⟩ := hM p e ha hc hk s m args below hf happ hP hKK
  refine ⟨n, o, h1, h2, h3, ?_⟩
  rcases h4 with h4 | ⟨q, -, E, ce, L, hF, -⟩
  · exact h4
  · exact (hX _ _ _ hF).elim
/-! the law's own led -/
def x_ledc (Q : xQ) : xK := fun _ st h c n => match st with
  | [p, x, z, out] => (c + 1 ≤ 1 ∧ n + 6 ≤ 6) ∧ z = 0 ∧ x ≠ -1 ∧ T_X8_led2 [x, p] h (fun v h' => out ≠ -1 ∧ 0 < Lg h' out ∧ Q 0 (Ue h' out 0 v)) (fun h' => Q 1 h')
  | _ => False
def E_lL (Q : xQ) : xK := x_load 2 (x_const 0 (x_load 0 (x_load 1 (x_ledc Q))))
set_option maxRecDepth 100000 in
set_option maxHeartbeats 4000000 in
theorem S_lL {X : CX} {Q : xQ} {Q0 : tQ} {XC : String → State → State → Prop} (hC : CF X cL_led RL WALL) (hE : EX X.2.2.2.2.1) (hl : X.2.1.stackTraces = false) (e2 : xn X = 4) (e3 : xR X = rm_ll) (hT : XT X Q0 XC) (hQ : ∀ v h', Q v (spl h') → Q0 v h') (htb : X.2.2.2.2.2.2.2.2.2.1.exceptionTable.toList = tableOf [(0, 9, 12, 13)]) : SdS X 0 [(0, 18), (1, 0), (2, 101)] [] (E_lL Q) := by
  have S7 : SdS X 7 [(0, 18), (1, 0), (2, 101)] [0, 0, 101] (x_i2l (x_ast (x_const 0 (x_ret Q)))) := by
    refine su_i2l hC dL_led_7 (?_ : SdS X 8 [(0, 18), (1, 0), (2, 101)] [1, 0, 101] _)
    refine su_lastore hC dL_led_8 (?_ : SdS X 9 [(0, 18), (1, 0), (2, 101)] [] _)
    refine su_goto (tgt := 15) hC dL_led_9 rfl ?_
    refine su_iconst hC dL_led_15 ⟨by decide, by decide⟩ (?_ : SdS X 16 [(0, 18), (1, 0), (2, 101)] [0] _)
    exact su_xret hC hT hQ dL_led_16
  have S13 : SdS X 13 [] [] (x_const 1 (x_ret Q)) := by
    refine su_iconst hC dL_led_13 ⟨by decide, by decide⟩ (?_ : SdS X 14 [] [0] _)
    exact su_xret hC hT hQ dL_led_14
  unfold E_lL
  refine su_aload_n hC 101 dL_led_0 rfl (by decide) (by decide) (?_ : SdS X 1 [(0, 18), (1, 0), (2, 101)] [101] _)
  refine su_iconst hC dL_led_1 ⟨by decide, by decide⟩ (?_ : SdS X 2 [(0, 18), (1, 0), (2, 101)] [0, 101] _)
  refine su_aload_n hC 18 dL_led_2 rfl (by decide) (by decide) (?_ : SdS X 3 [(0, 18), (1, 0), (2, 101)] [18, 0, 101] _)
  refine su_iload_n hC dL_led_3 rfl (by decide) (?_ : SdS X 4 [(0, 18), (1, 0), (2, 101)] [0, 18, 0, 101] _)
  intro lo st h cn sn H locs ls hk hH hL hS hloc h1 h2
  obtain ⟨pp, xx, zz, s3, rfl, v1, v2, v3, r3⟩ := hS.c3
  obtain ⟨oo, s4, rfl, v4, r4⟩ := r3.c1
  cases s4 with
  | cons _ _ => exact False.elim r4
  | nil =>
    have hk' : (cn + 1 ≤ 1 ∧ sn + 6 ≤ 6) ∧ zz = 0 ∧ xx ≠ -1 ∧ T_X8_led2 [xx, pp] (spl h) (fun v h' => oo ≠ -1 ∧ 0 < Lg h' oo ∧ Q 0 (Ue h' oo 0 v)) (fun h' => Q 1 h') := hk
    obtain ⟨⟨c1, c2⟩, rfl, hxx, hTT⟩ := hk'
    have hka : Kd h xx = some 18 := (vt_obj (by decide) v2).resolve_left hxx
    have hpos := hH.pos hka
    obtain ⟨⟨cell, q1, q2, q3, q4⟩, -⟩ := hH.obj (ci := 8) (by decide) hka (q := (RX8, TX8, 18)) rfl
    have hM := M_led hl (xG X) [xx, pp] h (fun v h' => oo ≠ -1 ∧ 0 < Lg (spl h') oo ∧ Q 0 (Ue (spl h') oo 0 v)) (fun v h' => oo ≠ -1 ∧ 0 < Lg h' oo ∧ Q 0 (Ue h' oo 0 v)) (fun h' => Q 1 h') (fun _ _ z => z) hTT ⟨v2, v1, trivial⟩
    obtain ⟨p, l, e, R, s, m, args, below, meth, c, Qf, G, nL⟩ := X
    obtain ⟨hx, hb, hml, hown, hts, hK, hlocks⟩ := id hC
    have e3 : R = rm_ll := e3
    subst e3
    have e2 : nL = 4 := e2
    subst e2
    have hE : EX s := hE
    have hH : RH G h H := hH
    have e1 : ev G 18 xx = .ref xx.toNat := by rw [ev_obj G (by decide), if_neg (by omega)]
    have hgd := goodW (y := yX8_led) (cd := cX8_led) (mx := 4) (ret := some .int) WG (led_w4 _ (List.mem_of_getElem? (i := 7) rfl)) (ws0 := [.methodLink RL 7 yX8_led, .instanceMethod yX8_led, .selects RX8 yX8_led yX8_led, .initialized RX8]) (by
      intro w hw
      simp only [List.mem_cons, List.not_mem_nil, or_false] at hw
      rcases hw with rfl | rfl | rfl | rfl
      · exact led_w4 _ (List.mem_of_getElem? (i := 3) rfl)
      · exact led_w4 _ (List.mem_of_getElem? (i := 4) rfl)
      · exact led_w4 _ (List.mem_of_getElem? (i := 5) rfl)
      · exact led_w4 _ (List.mem_of_getElem? (i := 6) rfl))
    have hrun := vx_runV (l := l) (e := e) (below := below) (meth := meth) (R := rm_ll) (locs := locs) (cells := cn) (slots := sn) (As := [ev G 0 pp]) (rest := es G [0, 101] [0, oo]) (g := F0 m 4 ls (es G [0, 18, 0, 101] [pp, xx, 0, oo])) ⟨hx, hb, hml, hown, hts⟩ hM (cwV (C := RX8) 1 hts hgd rfl rfl rfl ⟨rfl, led_hd⟩ (by decide)) ⟨mPx_blind _ _ _ _, ⟨cell, q1, by rw [q3]; rfl, by rw [q2]; exact (hK.1.1 8 _ rfl).2.1⟩, fun U hU hW => ⟨by show _ = (ev G 18 xx :: ev G 0 pp :: []).toArray; rw [e1], by rw [hU]; exact hH, hK.warm hW, hE.warm hW⟩⟩ rfl rfl hL.2.1.1 (by show ev G 0 pp :: ev G 18 xx :: _ = _; rw [e1]; rfl) (lv_room (by rw [es_wd G [0, 101] [0, oo] rfl]; decide)) dL_led_4 ⟨c1, c2⟩
    intro T hT0 Y
    rcases hrun T hT0 Y with ⟨v, st₀, t, T', L, g0, Y', hL', f1, f2, ⟨v0, h', hv, hq, hR', hvt, hle⟩, stp⟩ | ⟨q, st₀, t, T', L, E, ce, g0, Y', hL', f1, f2, ⟨rfl, h', hq, hR', hle⟩, hce, hcv, hcl, stp⟩
    · cases hv
      have hloc' : ∀ q ∈ locs ++ L, gB G ≤ q.base := fun q hq => (List.mem_append.mp hq).elim (hloc q) (hL' q)
      obtain ⟨t2, a1, b1⟩ := S7 lo [v0, 0, oo] h' (cn + rm_xl.cells) (sn + rm_xl.slots) T'.heap (locs ++ L) ls (show True ∧ oo ≠ -1 ∧ (0 ≤ (0 : Int) ∧ (0 : Int) < Lg (spl h') oo) ∧ Q 0 (Ue (spl h') oo 0 v0) from ⟨trivial, hq.1, ⟨by decide, hq.2.1⟩, hq.2.2⟩) (by rw [f1]; exact hR') (hL.mono hle) ⟨hvt 0 rfl, v3, v4.mono hle, trivial⟩ hloc' c1 c2 T' rfl Y'
      exact ⟨t2, stp t2 a1, b1⟩
    · have hloc' : ∀ q ∈ locs ++ L, gB G ≤ q.base := fun q hq => (List.mem_append.mp hq).elim (hloc q) (hL' q)
      obtain ⟨t2, a1, b1⟩ := vx_catch (pc := 4) (ls := ls) (rest := es G [0, 101] [0, oo]) (E := "java/util/NoSuchElementException") (own := RL) (name := "java/util/NoSuchElementException") (H := T'.heap) (locs := locs ++ L) (cells := cn + rm_xl.cells) (slots := sn + rm_xl.slots) hown [] ⟨0, 9, 12, 13⟩ [] htb (fun z hz => by cases hz) rfl (by decide) (hts _ (led_w4 _ (List.mem_of_getElem? (i := 2) rfl))) (va_Nw.use rfl hE.1) (by rw [f1]; exact hce) hcv hcl (lv_astore_n hx hb dL_led_12 rfl hL.2.1 (show 3 < 4 by decide) rfl (fun ls' hls' => S13 lo [] h' (cn + rm_xl.cells) (sn + rm_xl.slots) T'.heap (locs ++ L) ls' hq (by rw [f1]; exact hR') ⟨hL.1, ⟨hls'.1, hls'.2.1, (fun q hq => by cases hq)⟩, (fun q hq => by cases hq), hL.2.2.2.tr hle⟩ trivial hloc' c1 c2)) T' rfl Y'
      exact ⟨t2, stp.trans a1, b1⟩
theorem M_L_led {l : Launch} (hl : l.stackTraces = false) (G : GT) (xs : List Int) (h : tH) (Q : tQ) (Q' : xQ) (hQ : ∀ v h', Q' v (spl h') → Q v h') (hT : T_L_led xs (spl h) Q') (hRS : RS h [18, 0, 101] xs) : Met l yL_led (Cond.codeWith yL_led cL_led 4 (some .int) [(0, 9, 12, 13)] :: WALL) rm_ll (mPx G h [18, 0, 101] xs) (mQ G h (some 0) Q) rm_ll.cells rm_ll.slots (fun q => gB G ≤ q) := by
  refine met_of_x (XC := fun _ _ _ => False) ?_ (fun _ _ _ z => z)
  refine vx_ofWH (cc := cL_led) (maxL := 4) (ret := some .int) (hh := [(0, 9, 12, 13)]) (by decide +kernel) rfl ?_
  intro p e s m args below meth c s₁ Bd hml hv
  obtain ⟨rfl, hH, hK, hE⟩ := hv
  have hts := atoms_spec (ws := Cond.codeWith yL_led cL_led 4 (some .int) [(0, 9, 12, 13)] :: WALL) Bd.pre
  have htb : c.exceptionTable.toList = tableOf [(0, 9, 12, 13)] := vx_table (x := yL_led) Bd (hts _ List.mem_cons_self)
  have hC : CF (p, l, e, rm_ll, s, m, (es G [18, 0, 101] xs).toArray, below, meth, c, vx_MQ below (mQ G h (some 0) Q) (fun _ _ _ => False) (es G [18, 0, 101] xs).toArray s rm_ll.cells rm_ll.slots (fun q => gB G ≤ q), (gD G, gA G, gS G, gX G, gB G, gH G, gV G, h), 4) cL_led RL WALL := ⟨Bd.exec, Bd.bytes, hml, findClass_of_methodNamed Bd.named, fun w hw => hts w (List.mem_cons_of_mem _ hw), hK, Bd.notSynchronized⟩
  refine x_enter (τs := [18, 0, 101]) (B := E_lL Q') (by decide) hRS hH ?_ ?_
  · obtain ⟨xx, pp, oo, s3, rfl, v1, v2, v3, r3⟩ := hRS.c3
    cases s3 with
    | cons _ _ => exact False.elim r3
    | nil =>
      have hT' : xx ≠ -1 ∧ T_X8_led2 [xx, pp] (spl h) (fun v h' => oo ≠ -1 ∧ 0 < Lg h' oo ∧ Q' 0 (Ue h' oo 0 v)) (fun h' => Q' 1 h') := hT
      exact (show (0 + 1 ≤ 1 ∧ 0 + 6 ≤ 6) ∧ (0 : Int) = 0 ∧ xx ≠ -1 ∧ T_X8_led2 [xx, pp] (spl h) (fun v h' => oo ≠ -1 ∧ 0 < Lg h' oo ∧ Q' 0 (Ue h' oo 0 v)) (fun h' => Q' 1 h') from ⟨⟨by decide, by decide⟩, rfl, hT'.1, hT'.2⟩)
  · exact S_lL (Q0 := Q) (XC := fun _ _ _ => False) hC hE hl rfl rfl ⟨rfl, Bd.returns⟩ hQ htb
theorem law_led {X : CX} (hl : X.2.1.stackTraces = false) (hC : CF X cL_law RL WALL) (e3 : xR X = room_1) (hE : EX X.2.2.2.2.1) : LH X := by
  intro pc Γ τ k hdg hwd hs
  intro lo st h cn sn H locs ls hk hH hL hS hloc h1 h2
  obtain ⟨oo, pp, xx, s3, rfl, v1, v2, v3, r3⟩ := hS.c3
  have hk' : (cn + 1 ≤ 601024 ∧ sn + 6 ≤ 7293034) ∧ T_L_led [xx, pp, oo] (spl h) (fun v h' => k lo (v :: s3) h' (cn + 1) (sn + 6)) := hk
  obtain ⟨⟨c1, c2⟩, hTT⟩ := hk'
  have hM := M_L_led hl (xG X) [xx, pp, oo] h (fun v h' => k lo (v :: s3) (spl h') (cn + 1) (sn + 6)) (fun v h' => k lo (v :: s3) h' (cn + 1) (sn + 6)) (fun _ _ z => z) hTT ⟨v3, v2, v1, trivial⟩
  obtain ⟨p, l, e, R, s, m, args, below, meth, c, Qf, G, nL⟩ := X
  obtain ⟨hx, hb, hml, hown, hts, hK, hlocks⟩ := id hC
  have e3 : R = room_1 := e3
  subst e3
  have hE : EX s := hE
  have hH : RH G h H := hH
  have hgd : GoodIn WALL (va_wsS RL 182 yL_led (Cond.codeWith yL_led cL_led 4 (some .int) [(0, 9, 12, 13)] :: WALL)) := by
    intro w hw
    have hin : w ∈ WALL := by
      unfold va_wsS at hw
      rcases List.mem_append.mp hw with z | z
      · simp only [List.mem_cons, List.not_mem_nil, or_false] at z
        rcases z with rfl | rfl | rfl
        · exact led_w4 _ (List.mem_of_getElem? (i := 8) rfl)
        · exact led_w4 _ (List.mem_of_getElem? (i := 9) rfl)
        · exact led_w4 _ (List.mem_of_getElem? (i := 10) rfl)
      · rcases List.mem_cons.mp z with rfl | z
        · exact led_w4 _ (List.mem_of_getElem? (i := 11) rfl)
        · exact z
    exact ⟨hin, good_of_word (List.all_eq_true.mp WG w hin)⟩
  have hrun := vx_runSW (l := l) (e := e) (below := below) (meth := meth) (R := room_1) (locs := locs) (cells := cn) (slots := sn) (As := es G [18, 0, 101] [xx, pp, oo]) (rest := es G τ s3) (g := F0 m pc ls (es G (101 :: 0 :: 18 :: τ) (oo :: pp :: xx :: s3))) ⟨hx, hb, hml, hown, hts⟩ hM (vx_cwSW 3 hts hgd rfl rfl rfl led_hdL (by decide)) ⟨mPx_blind _ _ _ _, fun U hU hW => ⟨rfl, by rw [hU]; exact hH, hK.warm hW, hE.warm hW⟩⟩ rfl rfl hL.2.1.1 rfl (lv_room (by rw [es_wd G τ _ (RS.len r3)]; exact hwd)) hdg ⟨c1, c2⟩
  exact call_fin hrun hloc (fun v h' H' locs' a1 a2 a3 a4 a5 => hs lo (v :: s3) h' _ _ H' locs' ls a1 a2 (hL.mono a4) ⟨a3 0 rfl, r3.mono a4⟩ a5 c1 c2)

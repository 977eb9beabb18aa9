/-! ===== rows of the law ===== -/
def R_law : String := "NarrowRingsLaw"
def lw_P (b : Addr) (xs : List Int32) (args : Array Value) (s : State) : Prop := args = #[.ref b] ∧ s.IntsAt b xs ∧ xs.length ≤ 3584 ∧ (Jvm.Cond.and given_1 narrow_1).before args s = true
def lw_Q (_ : Array Value) (s : State) (o : Outcome) (t : State) : Prop := o = .returned (some (.int 1)) ∧ Framed s o t [] 601024 7293034
def lw_Z (below : List Frame) (a : Array Value) (s : State) : State → Prop := fun t => ∃ o, t.status = .running ∧ Ended t below o ∧ lw_Q a s o t
/-- the law's own end, with 1 on the stack, nothing written that was there before, its room as the claim has it -/
theorem lw_ret {p : Program} {l : Launch} {e : Env} {s : State} {m : MethodId} {below : List Frame} {meth : Method} {c : Code} {b : Nat} (hx : p.tables.exec = Jvm.exec) (hb : c.code = code) (hr : meth.sig.returnType = ret) (hlocks : meth.locks = false) {pc : Nat} {H : Heap} {ls : Array Slot} (hdg : decode code pc = .ok (.ireturn, 1)) : W p l e room_1 s m #[Value.ref b] below meth c H [] 601024 7293034 (lw_Z below #[Value.ref b] s) (F0 m pc ls [.int 1]) := by
  intro T hT X
  obtain ⟨fs, hret, hrun, hended, hW, hframe⟩ := X.leave (v := some (.int 1)) (hlocks := hlocks) (fun h => by rw [hr] at h; cases h)
  have hmeth' : T.vm.method? m = some meth := X.method'
  refine ⟨T.setFrames fs, ?_, .returned (some (.int 1)), hrun, hended, rfl, ⟨_, rfl⟩, hW, hframe⟩
  jvm_step X.here [X.here.top, hx, hb, hdg, hmeth', hr, ret, narrow_b1]
  (try refine ⟨rfl, ?_⟩); (try refine ⟨rfl, ?_⟩)
  first | (intro acts; rw [hret _ acts rfl rfl rfl]) | rw [hret _ _ rfl rfl rfl]
  exact Steps.refl _
/-- what holds at the law's entry -/
def lw_At (p : Program) (s : State) (m : MethodId) (meth : Method) (c : Code) (b L : Nat) (xs : Nat → Int32) : Prop :=
  p.tables.exec = Jvm.exec ∧ c.code = code ∧ meth.sig.returnType = ret ∧ c.maxLocals = 7 ∧ s.vm.findClass R_law = some m.cls ∧ (∀ w ∈ lw_tbl, w.before #[Value.ref b] s = true) ∧ va_X b L xs s s.heap ∧ b < s.heap.size ∧ meth.locks = false ∧ (Jvm.Cond.and given_1 narrow_1).before #[Value.ref b] s = true
/-- the script where the law stands -/
def SX (X : CX) (sL : Nat) (sx : Nat → Int32) : Prop := match X with
  | (_, _, _, _, s, _, _, _, _, _, _, G, _) => va_X (gX G) sL sx s (gH G) ∧ gX G < gB G ∧ sL ≤ 3584
/-- the law's end -/
def LT (X : CX) (Q : xQ) : Prop := match X with
  | (_, _, _, R, s, _, args, below, meth, _, Qf, G, _) => (∀ v h, Q v h → v = 1) ∧ R = room_1 ∧ (∃ b : Nat, args = #[Value.ref b]) ∧ Qf = lw_Z below args s ∧ gB G = s.heap.size ∧ meth.sig.returnType = ret
/-- the law's call of led -/
def LH (X : CX) : Prop := ∀ {pc : Nat} {Γ : List (Nat × Nat)} {τ : List Nat} {k : xK}, decode cL_law pc = .ok (.invokestatic 182, 3) → wd τ ≤ 8 → SdS X (pc + 3) Γ (0 :: τ) k → SdS X pc Γ (101 :: 0 :: 18 :: τ) (x_led 601024 7293034 k)
section LAWR
variable {X : CX} {pc : Nat} {Γ : List (Nat × Nat)} {τ : List Nat} {k : xK} {cc : ByteArray} {own : String} {Ts : List Cond} {sL : Nat} {sx : Nat → Int32}
theorem frx_of {h : tH} (hK : ∀ (a : Int) (κ : Nat), Kd h a = some κ → a < (Nx h : Int)) : frx (spl h) := by
  intro b j hb
  have hn := none_of hK hb
  refine ⟨?_, ?_, ?_⟩
  · show vFd h b j = 0
    unfold vFd
    rw [hn]
  · show vEl h b j = 0
    unfold vEl
    rw [hn]
  · show vRf h b j = -1
    unfold vRf
    rw [hn]
theorem su_fresh (hs : SdS X pc Γ τ k) : SdS X pc Γ τ (x_fresh k) := by
  refine Sd.impT ?_ hs
  intro lo st h cn sn hK hS hk
  exact hk (frx_of hK)
theorem su_slen (hC : CF X cc own Ts) (hX : SX X sL sx) (hdg : decode cc pc = .ok (.arraylength, 1)) (hs : SdS X (pc + 1) Γ (0 :: τ) k) : SdS X pc Γ (6 :: τ) (x_slen sL k) := by
  intro lo st h cn sn H locs ls hk hH hL hS hl h1 h2
  obtain ⟨a, st, rfl, v2, hS⟩ := hS.c1
  have hsl : sL ≤ 3584 := by
    obtain ⟨p, l, ee, R, s, m, args, below, meth, c, Q, G, nL⟩ := X
    exact hX.2.2
  have kk := hs lo ((sL : Int) :: st) h cn sn H locs ls hk hH hL ⟨⟨by omega, by omega⟩, hS⟩ hl h1 h2
  obtain ⟨p, l, ee, R, s, m, args, below, meth, c, Q, G, nL⟩ := X
  obtain ⟨hx, hb, hml, hown, hts, hK, hlocks⟩ := hC
  obtain ⟨⟨scr, s1, s2, s3, s4, s5⟩, hlt, -⟩ := hX
  show W p l ee R s m args below meth c H locs cn sn Q (F0 m pc ls (Value.ref (gX G) :: es G τ st))
  refine W.alen hx hb ((hH.2.2.1 _ hlt).trans s1) s2 (n := Int32.ofInt (sL : Int)) ?_ rfl rfl hdg kk
  rw [s4]
  show Int32.ofNat _ = _
  rw [← Int32.ofInt_eq_ofNat]
theorem su_sld (hC : CF X cc own Ts) (hX : SX X sL sx) (hdg : decode cc pc = .ok (.iaload, 1)) (hs : SdS X (pc + 1) Γ (0 :: τ) k) : SdS X pc Γ (0 :: 6 :: τ) (x_sld sL sx k) := by
  intro lo st h cn sn H locs ls hk hH hL hS hl h1 h2
  obtain ⟨i, a, st, rfl, v1, v2, hS⟩ := hS.c2
  have hsl : sL ≤ 3584 := by
    obtain ⟨p, l, ee, R, s, m, args, below, meth, c, Q, G, nL⟩ := X
    exact hX.2.2
  have hk' : (0 ≤ i ∧ i < (sL : Int)) ∧ k lo ((sx i.toNat).toInt :: st) (spl h) cn sn := hk
  obtain ⟨hi, hk⟩ := hk'
  have kk := hs lo ((sx i.toNat).toInt :: st) h cn sn H locs ls hk hH hL ⟨inI_of _, hS⟩ hl h1 h2
  obtain ⟨p, l, ee, R, s, m, args, below, meth, c, Q, G, nL⟩ := X
  obtain ⟨hx, hb, hml, hown, hts, hK, hlocks⟩ := hC
  obtain ⟨⟨scr, s1, s2, s3, s4, s5⟩, hlt, -⟩ := hX
  show W p l ee R s m args below meth c H locs cn sn Q (F0 m pc ls (Value.int (Int32.ofInt i) :: Value.ref (gX G) :: es G τ st))
  have kk : W p l ee R s m args below meth c H locs cn sn Q (F0 m (pc + 1) ls (Value.int (Int32.ofInt (sx i.toNat).toInt) :: es G τ st)) := kk
  rw [Int32.ofInt_toInt] at kk
  refine W.iald (v := .int (sx i.toNat)) hx hb ((hH.2.2.1 _ hlt).trans s1) s2 s3 ?_ ?_ rfl rfl hdg kk
  · rw [s4]; exact clampIn hi.1 (by omega) hi.2
  · rw [clampI hi.1 (by omega)]
    exact s5 _ (by omega)
theorem su_lret (hC : CF X cL_law own Ts) {Q : xQ} (hT : LT X Q) (hdg : decode cL_law pc = .ok (.ireturn, 1)) : SdS X pc Γ [0] (x_retz Q) := by
  intro lo st h cn sn H locs ls hk hH hL hS hl h1 h2
  obtain ⟨v, st, rfl, v1, hS⟩ := hS.c1
  obtain ⟨p, l, e, R, s, m, args, below, meth, c, Qf, G, nL⟩ := X
  obtain ⟨hx, hb, hml, hown, hts, hK, hlocks⟩ := hC
  obtain ⟨hq, rfl, ⟨b, rfl⟩, rfl, hgb, hr⟩ := hT
  have hk' : (v = 0 ∨ v = 1) ∧ Q v (spl h) := hk
  have e1 := hq _ _ hk'.2
  subst e1
  cases st with
  | cons _ _ => exact False.elim hS.2
  | nil =>
    refine W.widen (k := 601024) (n := 7293034) h1 h2 ?_
    refine va_forget (fun q z => by rw [← hgb]; exact hl q z) ?_
    exact lw_ret hx hb hr hlocks hdg
end LAWR

/-! ===== the T level against the machine: what a heap of Ints says of the machine's heap ===== -/
abbrev clsA : List vw_C := [(RX0, TX0, 2), (RX1, TX1, 12), (RX2, TX2, 10), (RX3, TX3, 6), (RX4, TX4, 15), (RX5, TX5, 3), (RX6, TX6, 7), (RX7, TX7, 7), (RX8, TX8, 18), (RX9, TX9, 28), (RX10, TX10, 45)]
/-- the type of a field: by class and slot -/
def ftL : List (List Nat) := [[0, 200], [0, 0, 0, 0, 0, 100, 200, 200, 200, 200, 116, 116], [0, 0, 200, 100, 100, 100, 100, 100, 11, 117], [11, 0, 0, 100, 100, 100], [0, 100, 0, 0, 0, 0, 0, 1, 0, 0, 11, 101, 100, 0, 100], [100, 100, 100], [100, 100, 100, 0, 0, 3, 3], [3, 3, 0, 0, 0, 0, 100], [100, 0, 11, 11, 14, 13, 117, 17, 100, 12, 112, 0, 10, 15, 16, 0, 0, 0], [0, 0, 0, 0, 0, 0, 100, 100, 100, 103, 103, 103, 100, 100, 100, 100, 100, 100, 100, 100, 100, 100, 100, 100, 100, 100, 101, 100], [0, 0, 0, 19, 19, 102, 0, 0, 0, 0, 0, 0, 0, 0, 0, 1, 100, 0, 0, 0, 0, 0, 0, 0, 101, 100, 0, 3, 0, 0, 0, 100, 100, 100, 100, 100, 100, 100, 0, 0, 100, 100, 100, 100, 0]]
def ftN (κ : Nat) : Nat := (ftL.getD (κ - 10) []).length
def ft (κ k : Nat) : Nat := (ftL.getD (κ - 10) []).getD k 0
def dfl (ty : Nat) : Int := match ty with
  | 0 => 0
  | 1 => 0
  | 2 => 0
  | 3 => 0
  | _ => -1
/-- what is fixed for a run: the classes' numbers and slots, the array classes' numbers, the texts' addresses, the script's, the heap at the start -/
abbrev GT : Type := va_G × (Nat → ClassId) × (Nat → Nat) × Nat × Nat × Heap
def gD (G : GT) : va_G := G.1
def gA (G : GT) : Nat → ClassId := G.2.1
def gS (G : GT) : Nat → Nat := G.2.2.1
def gX (G : GT) : Nat := G.2.2.2.1
def gB (G : GT) : Nat := G.2.2.2.2.1
def gH (G : GT) : Heap := G.2.2.2.2.2
def ev (G : GT) (ty : Nat) (x : Int) : Value := match ty with
  | 0 => .int (Int32.ofInt x)
  | 1 => .long (Int64.ofInt x)
  | 2 => .int (Int32.ofInt x)
  | 3 => .int (Int32.ofInt x)
  | 4 => .int (Int32.ofInt x)
  | 5 => .ref (gS G x.toNat)
  | 6 => .ref (gX G)
  | _ => if x < 0 then .null else .ref x.toNat
def vt (h : tH) (ty : Nat) (x : Int) : Prop := match ty with
  | 0 => inI x
  | 1 => inL x
  | 2 => -128 ≤ x ∧ x ≤ 127
  | 3 => x = 0 ∨ x = 1
  | 4 => False
  | 5 => 0 ≤ x
  | 6 => True
  | t => x = -1 ∨ Kd h x = some t
/-- a cell -/
def cR (G : GT) (h : tH) (H : Heap) (a : Int) (κ : Nat) : Prop :=
  if κ < 100 then ∃ r : vw_C, clsA[κ - 10]? = some r ∧ t_OB a.toNat ((gD G).1 (κ - 10)) r.2.2 ((gD G).2 (κ - 10)) H (fun k => ev G (ft κ k) (Me h a k))
  else H[a.toNat]? = some (arrV (gA G κ) (Ln h a).toNat (fun j => ev G (κ - 100) (Me h a j)))
def cT (h : tH) (a : Int) (κ : Nat) : Prop :=
  if κ < 100 then ∀ k : Nat, k < ftN κ → vt h (ft κ k) (Me h a k)
  else (0 ≤ Ln h a ∧ Ln h a ≤ 100000) ∧ ∀ j : Int, 0 ≤ j → j < Ln h a → vt h (κ - 100) (Me h a j)
def RH (G : GT) (h : tH) (H : Heap) : Prop := H.size = Nx h ∧ gB G ≤ Nx h ∧ (∀ q : Nat, q < gB G → H[q]? = (gH G)[q]?) ∧ ∀ (a : Int) (κ : Nat), Kd h a = some κ → ((gB G : Int) ≤ a ∧ a < (Nx h : Int) ∧ 10 ≤ κ) ∧ cR G h H a κ ∧ cT h a κ
def RLo (G : GT) (Γ : List (Nat × Nat)) (nL : Nat) (lo : List Int) (h : tH) (ls : Array Slot) : Prop := lo.length = nL ∧ lv_has ls nL (Γ.map fun q => (q.1, ev G q.2 (lo.getD q.1 0))) ∧ ∀ q ∈ Γ, vt h q.2 (lo.getD q.1 0)
def RS (h : tH) : List Nat → List Int → Prop
  | [], [] => True
  | t :: τ, x :: st => vt h t x ∧ RS h τ st
  | _, _ => False
def es (G : GT) : List Nat → List Int → List Value
  | t :: τ, x :: st => ev G t x :: es G τ st
  | _, _ => []
/-- later heaps keep the kinds -/
def hLe (h h' : tH) : Prop := ∀ (a : Int) (κ : Nat), Kd h a = some κ → Kd h' a = some κ
theorem hLe.rf {h : tH} : hLe h h := fun _ _ q => q
theorem hLe.tr {a b c : tH} (x : hLe a b) (y : hLe b c) : hLe a c := fun q κ z => y q κ (x q κ z)
theorem vt.mono {h h' : tH} {ty : Nat} {x : Int} (hl : hLe h h') (v : vt h ty x) : vt h' ty x := by
  unfold vt at v ⊢
  split at v <;> first | exact v | exact v.imp_right (hl _ _)
theorem RS.mono {h h' : tH} (hl : hLe h h') : ∀ {τ : List Nat} {st : List Int}, RS h τ st → RS h' τ st
  | [], [], _ => trivial
  | _ :: _, _ :: _, v => ⟨v.1.mono hl, RS.mono hl v.2⟩
  | [], _ :: _, v => v.elim
  | _ :: _, [], v => v.elim
theorem RLo.mono {G : GT} {Γ : List (Nat × Nat)} {nL : Nat} {lo : List Int} {h h' : tH} {ls : Array Slot} (hl : hLe h h') (r : RLo G Γ nL lo h ls) : RLo G Γ nL lo h' ls := ⟨r.1, r.2.1, fun q hq => (r.2.2 q hq).mono hl⟩
/-- array kinds and their element types -/
def arrK : List (Nat × FieldType) := [(100, .int), (101, .long), (102, .byte), (103, .boolean), (112, .object RX2), (116, .object RX6), (117, .object RX7), (200, .array .int)]
/-- what the tables say, at any state of the run -/
def KU (G : GT) (U : State) : Prop := va_K (gD G) clsA [] U ∧ ∀ q ∈ arrK, ArrOfT U (gA G q.1) q.2 ∧ va_RA U (gA G q.1) q.2
theorem KU.moved {G : GT} {u U : State} (hvm : u.vm.Alike U.vm) (h : KU G u) : KU G U := ⟨va_K.moved hvm h.1, fun q hq => ⟨arrOfT_moved hvm (h.2 q hq).1, (h.2 q hq).2.moved hvm⟩⟩
/-- where a method stands: all that its walk doesn't change -/
abbrev CX : Type := Program × Launch × Env × Room × State × MethodId × Array Value × List Frame × Method × Code × (State → Prop) × GT × Nat
def WX (X : CX) (H : Heap) (locs : List Loc) (cn sn : Nat) (g : JFrame) : Prop := match X with
  | (p, l, e, R, s, m, args, below, meth, c, Q, _, _) => W p l e R s m args below meth c H locs cn sn Q g
def xm (X : CX) : MethodId := X.2.2.2.2.2.1
def xG (X : CX) : GT := X.2.2.2.2.2.2.2.2.2.2.2.1
def xn (X : CX) : Nat := X.2.2.2.2.2.2.2.2.2.2.2.2
def xR (X : CX) : Room := X.2.2.2.1
/-- k is a sound precondition at pc -/
def Sd (X : CX) (pc : Nat) (Γ : List (Nat × Nat)) (τ : List Nat) (k : tK) : Prop :=
  ∀ (lo st : List Int) (h : tH) (cn sn : Nat) (H : Heap) (locs : List Loc) (ls : Array Slot), k lo st h cn sn → RH (xG X) h H → RLo (xG X) Γ (xn X) lo h ls → RS h τ st → (∀ q ∈ locs, gB (xG X) ≤ q.base) → cn ≤ (xR X).cells → sn ≤ (xR X).slots → WX X H locs cn sn (F0 (xm X) pc ls (es (xG X) τ st))
/-- what is known of a method where it stands -/
def CF (X : CX) (cc : ByteArray) (own : String) (Ts : List Cond) : Prop := match X with
  | (p, _, _, _, s, m, args, _, meth, c, _, G, nL) => p.tables.exec = Jvm.exec ∧ c.code = cc ∧ c.maxLocals = nL ∧ s.vm.findClass own = some m.cls ∧ (∀ w ∈ Ts, w.before args s = true) ∧ KU G s ∧ meth.locks = false
theorem toI {x : Int} (h : inI x) : (Int32.ofInt x).toInt = x := Int32.toInt_ofInt_of_le (by have := h.1; omega) (by have := h.2; omega)
theorem toL {x : Int} (h : inL x) : (Int64.ofInt x).toInt = x := Int64.toInt_ofInt_of_le (by have := h.1; omega) (by have := h.2; omega)
theorem inI_of (x : Int32) : inI x.toInt := ⟨Int32.le_toInt x, by have := Int32.toInt_lt x; omega⟩
theorem inL_of (x : Int64) : inL x.toInt := ⟨Int64.le_toInt x, by have := Int64.toInt_lt x; omega⟩
theorem wI_id {x : Int} (h : inI x) : wI x = x := toI h
theorem wL_id {x : Int} (h : inL x) : wL x = x := toL h
theorem ofw (x : Int) : Int32.ofInt (wI x) = Int32.ofInt x := Int32.ofInt_toInt _
theorem ofwL (x : Int) : Int64.ofInt (wL x) = Int64.ofInt x := Int64.ofInt_toInt _
section SD
variable {X : CX} {pc : Nat} {Γ : List (Nat × Nat)} {τ : List Nat} {k : tK} {cc : ByteArray} {own : String} {Ts : List Cond}
theorem Sd.weak {Γ' : List (Nat × Nat)} (hΓ : ∀ q ∈ Γ', q ∈ Γ) (hs : Sd X pc Γ' τ k) : Sd X pc Γ τ k := by
  intro lo st h cn sn H locs ls hk hH hL hS hl h1 h2
  refine hs lo st h cn sn H locs ls hk hH ⟨hL.1, ⟨hL.2.1.1, hL.2.1.2.1, fun q hq => ?_⟩, fun q hq => hL.2.2 q (hΓ q hq)⟩ hS hl h1 h2
  obtain ⟨z, hz, rfl⟩ := List.mem_map.mp hq
  exact hL.2.1.2.2 _ (List.mem_map.mpr ⟨z, hΓ z hz, rfl⟩)
theorem Sd.imp {k' : tK} (hi : ∀ lo st h cn sn, k lo st h cn sn → k' lo st h cn sn) (hs : Sd X pc Γ τ k') : Sd X pc Γ τ k := fun lo st h cn sn H locs ls hk hH hL hS hl h1 h2 => hs lo st h cn sn H locs ls (hi _ _ _ _ _ hk) hH hL hS hl h1 h2
theorem Sd.loop {B : tK → tK} (hB : ∀ k : tK, Sd X pc Γ τ k → Sd X pc Γ τ (B k)) : Sd X pc Γ τ (o_loop B) := by
  have key : ∀ j : Nat, Sd X pc Γ τ (o_it B j) := by
    intro j
    induction j with
    | zero => exact fun _ _ _ _ _ _ _ _ hk => hk.elim
    | succ j ih => exact hB _ ih
  intro lo st h cn sn H locs ls hk hH hL hS hl h1 h2
  obtain ⟨j, hj⟩ := hk
  exact key j lo st h cn sn H locs ls hj hH hL hS hl h1 h2
theorem RS.c1 {h : tH} {t : Nat} {st : List Int} (r : RS h (t :: τ) st) : ∃ x st', st = x :: st' ∧ vt h t x ∧ RS h τ st' := by
  cases st with
  | nil => exact r.elim
  | cons x st' => exact ⟨x, st', rfl, r.1, r.2⟩
theorem RS.c2 {h : tH} {t u : Nat} {st : List Int} (r : RS h (t :: u :: τ) st) : ∃ x y st', st = x :: y :: st' ∧ vt h t x ∧ vt h u y ∧ RS h τ st' := by
  obtain ⟨x, s1, rfl, h1, r1⟩ := r.c1
  obtain ⟨y, s2, rfl, h2, r2⟩ := r1.c1
  exact ⟨x, y, s2, rfl, h1, h2, r2⟩
theorem RS.c3 {h : tH} {t u v : Nat} {st : List Int} (r : RS h (t :: u :: v :: τ) st) : ∃ x y z st', st = x :: y :: z :: st' ∧ vt h t x ∧ vt h u y ∧ vt h v z ∧ RS h τ st' := by
  obtain ⟨x, y, s1, rfl, h1, h2, r1⟩ := r.c2
  obtain ⟨z, s2, rfl, h3, r2⟩ := r1.c1
  exact ⟨x, y, z, s2, rfl, h1, h2, h3, r2⟩
/-- a row that only pushes a known value -/
theorem sd_push {v : Int} {ty len : Nat} (hv : ∀ h : tH, vt h ty v) (row : ∀ (H : Heap) (locs : List Loc) (cn sn : Nat) (ls : Array Slot) (rest : List Value), WX X H locs cn sn (F0 (xm X) (pc + len) ls (ev (xG X) ty v :: rest)) → WX X H locs cn sn (F0 (xm X) pc ls rest)) (hs : Sd X (pc + len) Γ (ty :: τ) k) : Sd X pc Γ τ (o_const v k) := by
  intro lo st h cn sn H locs ls hk hH hL hS hl h1 h2
  exact row H locs cn sn ls _ (hs lo (v :: st) h cn sn H locs ls hk hH hL ⟨hv h, hS⟩ hl h1 h2)
theorem sd_iconst (hC : CF X cc own Ts) {n : Int} (hdg : decode cc pc = .ok (.iconst n, 1)) (hn : inI n) (hs : Sd X (pc + 1) Γ (0 :: τ) k) : Sd X pc Γ τ (o_const n k) := by
  refine sd_push (ty := 0) (len := 1) (fun _ => hn) ?_ hs
  intro H locs cn sn ls rest kk
  obtain ⟨p, l, e, R, s, m, args, below, meth, c, Q, G, nL⟩ := X
  obtain ⟨hx, hb, hml, hown, hts, hK, hlk⟩ := hC
  exact lv_iconst hx hb hdg rfl kk
theorem sd_bipush (hC : CF X cc own Ts) {n : Int} (hdg : decode cc pc = .ok (.bipush n, 2)) (hn : -128 ≤ n ∧ n ≤ 127) (hs : Sd X (pc + 2) Γ (0 :: τ) k) : Sd X pc Γ τ (o_const n k) := by
  refine sd_push (ty := 0) (len := 2) (fun _ => ⟨by have := hn.1; omega, by have := hn.2; omega⟩) ?_ hs
  intro H locs cn sn ls rest kk
  obtain ⟨p, l, e, R, s, m, args, below, meth, c, Q, G, nL⟩ := X
  obtain ⟨hx, hb, hml, hown, hts, hK, hlk⟩ := hC
  refine lv_bipush hx hb hdg ?_ kk
  apply Int32.toInt_inj.mp
  rw [toI ⟨by have := hn.1; omega, by have := hn.2; omega⟩, Int8.toInt_toInt32, Int8.toInt_ofInt_of_le (by have := hn.1; omega) (by have := hn.2; omega)]
theorem sd_sipush (hC : CF X cc own Ts) {n : Int} (hdg : decode cc pc = .ok (.sipush n, 3)) (hn : -32768 ≤ n ∧ n ≤ 32767) (hs : Sd X (pc + 3) Γ (0 :: τ) k) : Sd X pc Γ τ (o_const n k) := by
  refine sd_push (ty := 0) (len := 3) (fun _ => ⟨by have := hn.1; omega, by have := hn.2; omega⟩) ?_ hs
  intro H locs cn sn ls rest kk
  obtain ⟨p, l, e, R, s, m, args, below, meth, c, Q, G, nL⟩ := X
  obtain ⟨hx, hb, hml, hown, hts, hK, hlk⟩ := hC
  refine lv_sipush hx hb hdg ?_ kk
  apply Int32.toInt_inj.mp
  rw [toI ⟨by have := hn.1; omega, by have := hn.2; omega⟩, Int16.toInt_toInt32, Int16.toInt_ofInt_of_le (by have := hn.1; omega) (by have := hn.2; omega)]
theorem sd_ldc (hC : CF X cc own Ts) {n : Int} {index : Nat} (hw : Cond.constant own index (Int32.ofInt n) ∈ Ts) (hdg : decode cc pc = .ok (.ldc index, 2)) (hn : inI n) (hs : Sd X (pc + 2) Γ (0 :: τ) k) : Sd X pc Γ τ (o_const n k) := by
  refine sd_push (ty := 0) (len := 2) (fun _ => hn) ?_ hs
  intro H locs cn sn ls rest kk
  obtain ⟨p, l, e, R, s, m, args, below, meth, c, Q, G, nL⟩ := X
  obtain ⟨hx, hb, hml, hown, hts, hK, hlk⟩ := hC
  exact lv_ldc hx hb hown (hts _ hw) hdg kk
theorem sd_lconst (hC : CF X cc own Ts) {n : Fin 2} {v : Int} (hv : v = ((n : Nat) : Int)) (hdg : decode cc pc = .ok (.lconst n, 1)) (hs : Sd X (pc + 1) Γ (1 :: τ) k) : Sd X pc Γ τ (o_const v k) := by
  subst hv
  refine sd_push (ty := 1) (len := 1) (fun _ => ⟨by have := n.2; omega, by have := n.2; omega⟩) ?_ hs
  intro H locs cn sn ls rest kk
  obtain ⟨p, l, e, R, s, m, args, below, meth, c, Q, G, nL⟩ := X
  obtain ⟨hx, hb, hml, hown, hts, hK, hlk⟩ := hC
  exact lv_lconst hx hb hdg rfl kk
theorem sd_ldc2 (hC : CF X cc own Ts) {n : Int} {index : Nat} (hw : Cond.constantLong own index (Int64.ofInt n) ∈ Ts) (hdg : decode cc pc = .ok (.ldc2_w index, 3)) (hn : inL n) (hs : Sd X (pc + 3) Γ (1 :: τ) k) : Sd X pc Γ τ (o_const n k) := by
  refine sd_push (ty := 1) (len := 3) (fun _ => hn) ?_ hs
  intro H locs cn sn ls rest kk
  obtain ⟨p, l, e, R, s, m, args, below, meth, c, Q, G, nL⟩ := X
  obtain ⟨hx, hb, hml, hown, hts, hK, hlk⟩ := hC
  exact W.ldc2 hx hb hown (hts _ hw) rfl hdg kk
end SD

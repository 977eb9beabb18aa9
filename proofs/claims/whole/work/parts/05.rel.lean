/-! ===== the T level against the machine: what a heap of Ints says of the machine's heap ===== -/
abbrev clsA : List vw_C := [(RX0, TX0, 2), (RX1, TX1, 12), (RX2, TX2, 10), (RX3, TX3, 6), (RX4, TX4, 15), (RX5, TX5, 3), (RX6, TX6, 7), (RX7, TX7, 7), (RX8, TX8, 18), (RX9, TX9, 28), (RX10, TX10, 45)]
/-- the type of a field: by class and slot -/
def ftL : List (List Nat) := [[0, 200], [0, 0, 0, 0, 0, 100, 200, 200, 200, 200, 116, 116], [0, 0, 200, 100, 100, 100, 100, 100, 11, 117], [11, 0, 0, 100, 100, 100], [0, 100, 0, 0, 0, 0, 0, 1, 0, 0, 11, 101, 100, 0, 100], [100, 100, 100], [100, 100, 100, 0, 0, 3, 3], [3, 3, 0, 0, 0, 0, 100], [100, 0, 11, 11, 14, 13, 117, 17, 100, 12, 112, 0, 10, 15, 16, 0, 0, 0], [0, 0, 0, 0, 0, 0, 100, 100, 100, 103, 103, 103, 100, 100, 100, 100, 100, 100, 100, 100, 100, 100, 100, 100, 100, 100, 101, 100], [0, 0, 0, 19, 19, 102, 0, 0, 0, 0, 0, 0, 0, 0, 0, 1, 100, 0, 0, 0, 0, 0, 0, 0, 101, 100, 0, 3, 0, 0, 0, 100, 100, 100, 100, 100, 100, 100, 0, 0, 100, 100, 100, 100, 0]]
def ftN (κ : Nat) : Nat := (ftL.getD (κ - 10) []).length
def ft (κ k : Nat) : Nat := (ftL.getD (κ - 10) []).getD k 0
def dfl (ty : Nat) : Int := match ty with
  | 0 => 0
  | 1 => 0
  | 2 => 0
  | 3 => 0
  | _ => -1
/-- what is fixed for a run: the classes' numbers and slots, the array classes' numbers, the texts' addresses, the script's, the heap at the start -/
abbrev GT : Type := va_G × (Nat → ClassId) × (Nat → Nat) × Nat × Nat × Heap × (Nat → Nat) × tH
def gD (G : GT) : va_G := G.1
def gA (G : GT) : Nat → ClassId := G.2.1
def gS (G : GT) : Nat → Nat := G.2.2.1
def gX (G : GT) : Nat := G.2.2.2.1
def gB (G : GT) : Nat := G.2.2.2.2.1
def gH (G : GT) : Heap := G.2.2.2.2.2.1
def gV (G : GT) : Nat → Nat := G.2.2.2.2.2.2.1
/-- the heap where the method began -/
def gK (G : GT) : tH := G.2.2.2.2.2.2.2
def ev (G : GT) (ty : Nat) (x : Int) : Value := match ty with
  | 0 => .int (Int32.ofInt x)
  | 1 => .long (Int64.ofInt x)
  | 2 => .int (Int32.ofInt x)
  | 3 => .int (Int32.ofInt x)
  | 4 => .ref (gV G x.toNat)
  | 5 => .ref (gS G x.toNat)
  | 6 => .ref (gX G)
  | _ => if x < 0 then .null else .ref x.toNat
def vt (h : tH) (ty : Nat) (x : Int) : Prop := match ty with
  | 0 => inI x
  | 1 => inL x
  | 2 => -128 ≤ x ∧ x ≤ 127
  | 3 => x = 0 ∨ x = 1
  | 4 => 0 ≤ x ∧ x < 24
  | 5 => 0 ≤ x ∧ x < 24
  | 6 => True
  | t => x = -1 ∨ Kd h x = some t
/-- a cell -/
def cR (G : GT) (h : tH) (H : Heap) (a : Int) (κ : Nat) : Prop :=
  if κ < 100 then ∃ r : vw_C, clsA[κ - 10]? = some r ∧ t_OB a.toNat ((gD G).1 (κ - 10)) r.2.2 ((gD G).2 (κ - 10)) H (fun k => ev G (ft κ k) (Me h a k))
  else H[a.toNat]? = some (arrV (gA G κ) (Ln h a).toNat (fun j => ev G (κ - 100) (Me h a j)))
def cT (h : tH) (a : Int) (κ : Nat) : Prop :=
  if κ < 100 then ∀ k : Nat, k < ftN κ → vt h (ft κ k) (Me h a k)
  else (0 ≤ Ln h a ∧ Ln h a ≤ 100000) ∧ ∀ j : Int, 0 ≤ j → j < Ln h a → vt h (κ - 100) (Me h a j)
def RH (G : GT) (h : tH) (H : Heap) : Prop := H.size = Nx h ∧ gB G ≤ Nx h ∧ (∀ q : Nat, q < gB G → H[q]? = (gH G)[q]?) ∧ ∀ (a : Int) (κ : Nat), Kd h a = some κ → ((gB G : Int) ≤ a ∧ a < (Nx h : Int) ∧ 10 ≤ κ) ∧ cR G h H a κ ∧ cT h a κ
/-- later heaps keep the kinds -/
def hLe (h h' : tH) : Prop := ∀ (a : Int) (κ : Nat), Kd h a = some κ → Kd h' a = some κ
theorem hLe.rf {h : tH} : hLe h h := fun _ _ q => q
theorem hLe.tr {a b c : tH} (x : hLe a b) (y : hLe b c) : hLe a c := fun q κ z => y q κ (x q κ z)
def RLo (G : GT) (Γ : List (Nat × Nat)) (nL : Nat) (lo : List Int) (h : tH) (ls : Array Slot) : Prop := lo.length = nL ∧ lv_has ls nL (Γ.map fun q => (q.1, ev G q.2 (lo.getD q.1 0))) ∧ (∀ q ∈ Γ, vt h q.2 (lo.getD q.1 0)) ∧ hLe (gK G) h
def RS (h : tH) : List Nat → List Int → Prop
  | [], [] => True
  | t :: τ, x :: st => vt h t x ∧ RS h τ st
  | _, _ => False
def es (G : GT) : List Nat → List Int → List Value
  | t :: τ, x :: st => ev G t x :: es G τ st
  | _, _ => []
theorem vt.mono {h h' : tH} {ty : Nat} {x : Int} (hl : hLe h h') (v : vt h ty x) : vt h' ty x := by
  unfold vt at v ⊢
  split at v <;> first | exact v | exact v.imp_right (hl _ _)
theorem RS.mono {h h' : tH} (hl : hLe h h') : ∀ {τ : List Nat} {st : List Int}, RS h τ st → RS h' τ st
  | [], [], _ => trivial
  | _ :: _, _ :: _, v => ⟨v.1.mono hl, RS.mono hl v.2⟩
  | [], _ :: _, v => v.elim
  | _ :: _, [], v => v.elim
theorem RLo.mono {G : GT} {Γ : List (Nat × Nat)} {nL : Nat} {lo : List Int} {h h' : tH} {ls : Array Slot} (hl : hLe h h') (r : RLo G Γ nL lo h ls) : RLo G Γ nL lo h' ls := ⟨r.1, r.2.1, fun q hq => (r.2.2.1 q hq).mono hl, r.2.2.2.tr hl⟩
/-- array kinds and their element types -/
def arrK : List (Nat × FieldType) := [(100, .int), (101, .long), (102, .byte), (103, .boolean), (112, .object RX2), (116, .object RX6), (117, .object RX7), (200, .array .int)]
def nestF : List (String × Nat × String × String × String × String) := [("NarrowRingsModel", 174, "NarrowRingsModel$City", "rings", "I", "NarrowRingsModel"), ("NarrowRingsModel", 213, "NarrowRingsModel$City", "gates", "I", "NarrowRingsModel"), ("NarrowRingsModel", 249, "NarrowRingsModel$City", "carts", "I", "NarrowRingsModel"), ("NarrowRingsModel", 271, "NarrowRingsModel$City", "goods", "I", "NarrowRingsModel"), ("NarrowRingsModel", 296, "NarrowRingsModel$City", "orders", "I", "NarrowRingsModel"), ("NarrowRingsModel", 210, "NarrowRingsModel$City", "width", "[I", "NarrowRingsModel"), ("NarrowRingsModel", 267, "NarrowRingsModel$City", "bread", "[I", "NarrowRingsModel"), ("NarrowRingsModel", 269, "NarrowRingsModel$City", "mouths", "[I", "NarrowRingsModel"), ("NarrowRingsModel", 259, "NarrowRingsModel$City", "isStore", "[Z", "NarrowRingsModel"), ("NarrowRingsModel", 291, "NarrowRingsModel$City", "tilts", "[Z", "NarrowRingsModel"), ("NarrowRingsModel", 293, "NarrowRingsModel$City", "isHoly", "[Z", "NarrowRingsModel"), ("NarrowRingsModel", 242, "NarrowRingsModel$City", "gateNow", "[I", "NarrowRingsModel"), ("NarrowRingsModel", 254, "NarrowRingsModel$City", "cartRing", "[I", "NarrowRingsModel"), ("NarrowRingsModel", 257, "NarrowRingsModel$City", "bears", "[I", "NarrowRingsModel"), ("NarrowRingsModel", 281, "NarrowRingsModel$City", "length", "[I", "NarrowRingsModel"), ("NarrowRingsModel", 283, "NarrowRingsModel$City", "wide", "[I", "NarrowRingsModel"), ("NarrowRingsModel", 285, "NarrowRingsModel$City", "high", "[I", "NarrowRingsModel"), ("NarrowRingsModel", 287, "NarrowRingsModel$City", "weighs", "[I", "NarrowRingsModel"), ("NarrowRingsModel", 289, "NarrowRingsModel$City", "parts", "[I", "NarrowRingsModel"), ("NarrowRingsModel", 313, "NarrowRingsModel$City", "of", "[I", "NarrowRingsModel"), ("NarrowRingsModel", 315, "NarrowRingsModel$City", "fromRing", "[I", "NarrowRingsModel"), ("NarrowRingsModel", 318, "NarrowRingsModel$City", "fromPlace", "[I", "NarrowRingsModel"), ("NarrowRingsModel", 321, "NarrowRingsModel$City", "toRing", "[I", "NarrowRingsModel"), ("NarrowRingsModel", 324, "NarrowRingsModel$City", "toPlace", "[I", "NarrowRingsModel"), ("NarrowRingsModel", 327, "NarrowRingsModel$City", "hour", "[I", "NarrowRingsModel"), ("NarrowRingsModel", 301, "NarrowRingsModel$City", "goodOf", "[I", "NarrowRingsModel")]
def nestM : List (String × Nat × MethodName × String) := [("NarrowRings$Reader", 216, ⟨"NarrowRings", "upwards", "(II)I"⟩, "NarrowRings"), ("NarrowRings$City", 102, ⟨"NarrowRings", "upwards", "(II)I"⟩, "NarrowRings"), ("NarrowRings$Finder", 96, ⟨"NarrowRings", "apart", "(II)I"⟩, "NarrowRings"), ("NarrowRings$Day", 131, ⟨"NarrowRings", "apart", "(II)I"⟩, "NarrowRings"), ("NarrowRingsModel", 332, ⟨"NarrowRingsModel$City", "<init>", "()V"⟩, "NarrowRingsModel")]
def strL : List (String × Nat × String × Nat) := [("NarrowRings$Reader", 90, "rings", 0), ("NarrowRings$Reader", 95, "gate", 1), ("NarrowRings$Reader", 97, "cart", 2), ("NarrowRings$Reader", 99, "store", 3), ("NarrowRings$Reader", 101, "good", 4), ("NarrowRings$Reader", 103, "order", 5), ("NarrowRings$Reader", 105, "parts", 6), ("NarrowRings$Reader", 107, "tilts", 7), ("NarrowRings$Reader", 109, "holy", 8), ("NarrowRings$Reader", 167, "in", 9), ("NarrowRings$Reader", 173, "at", 10), ("NarrowRings$Reader", 174, "wide", 11), ("NarrowRings$Reader", 176, "high", 12), ("NarrowRings$Reader", 178, "hands", 13), ("NarrowRings$Reader", 180, "toll", 14), ("NarrowRings$Reader", 187, "bears", 15), ("NarrowRings$Reader", 191, "bread", 16), ("NarrowRings$Reader", 193, "mouths", 17), ("NarrowRings$Reader", 198, "long", 18), ("NarrowRings$Reader", 200, "weighs", 19), ("NarrowRings$Reader", 242, "of", 20), ("NarrowRings$Reader", 248, "from", 21), ("NarrowRings$Reader", 253, "to", 22), ("NarrowRings$Reader", 255, "hour", 23), ("NarrowRingsModel", 154, "rings", 0), ("NarrowRingsModel", 156, "gate", 1), ("NarrowRingsModel", 157, "cart", 2), ("NarrowRingsModel", 159, "store", 3), ("NarrowRingsModel", 161, "good", 4), ("NarrowRingsModel", 162, "order", 5), ("NarrowRingsModel", 164, "parts", 6), ("NarrowRingsModel", 166, "tilts", 7), ("NarrowRingsModel", 168, "holy", 8), ("NarrowRingsModel", 224, "in", 9), ("NarrowRingsModel", 229, "at", 10), ("NarrowRingsModel", 230, "wide", 11), ("NarrowRingsModel", 232, "high", 12), ("NarrowRingsModel", 234, "hands", 13), ("NarrowRingsModel", 236, "toll", 14), ("NarrowRingsModel", 252, "bears", 15), ("NarrowRingsModel", 263, "bread", 16), ("NarrowRingsModel", 265, "mouths", 17), ("NarrowRingsModel", 274, "long", 18), ("NarrowRingsModel", 276, "weighs", 19), ("NarrowRingsModel", 299, "of", 20), ("NarrowRingsModel", 304, "from", 21), ("NarrowRingsModel", 309, "to", 22), ("NarrowRingsModel", 311, "hour", 23)]
def txL : List (List Nat) := [[114, 105, 110, 103, 115], [103, 97, 116, 101], [99, 97, 114, 116], [115, 116, 111, 114, 101], [103, 111, 111, 100], [111, 114, 100, 101, 114], [112, 97, 114, 116, 115], [116, 105, 108, 116, 115], [104, 111, 108, 121], [105, 110], [97, 116], [119, 105, 100, 101], [104, 105, 103, 104], [104, 97, 110, 100, 115], [116, 111, 108, 108], [98, 101, 97, 114, 115], [98, 114, 101, 97, 100], [109, 111, 117, 116, 104, 115], [108, 111, 110, 103], [119, 101, 105, 103, 104, 115], [111, 102], [102, 114, 111, 109], [116, 111], [104, 111, 117, 114]]
def tx (a : Int) : List Int := (txL.getD a.toNat []).map fun c : Nat => (c : Int)
def lenT : List Nat := txL.map List.length
def bytT : List (List Int32) := txL.map fun l => l.map nI
/-- what the tables say of the texts -/
def KT (G : GT) (U : State) : Prop := (∀ q ∈ strL, vk_R q.1 q.2.1 q.2.2.1 (gS G q.2.2.2) U) ∧ vk_S txL.length lenT bytT (gS G) (gV G) (fun q => gB G ≤ q) U (gH G) ∧ va_Z "java/lang/String" "COMPACT_STRINGS" "Z" (.int 1) (fun q => gB G ≤ q) U (gH G) ∧ va_Zq "jdk/internal/util/Preconditions" "SIOOBE_FORMATTER" "Ljava/util/function/BiFunction;" (fun q => gB G ≤ q) U (gH G) ∧ vx_Zq "java/lang/Throwable" "UNASSIGNED_STACK" "[Ljava/lang/StackTraceElement;" (fun q => gB G ≤ q) U (gH G) ∧ vx_Zq "java/lang/Throwable" "SUPPRESSED_SENTINEL" "Ljava/util/List;" (fun q => gB G ≤ q) U (gH G)
/-- arrays of int rows -/
def oaI (U : State) : Prop := (Cond.arrayOver (.array .int)).before #[] U = true
theorem oaI.spec {s : State} (h : oaI s) : ∃ comp c k, s.vm.findClass (FieldType.array .int).toString = some comp ∧ (s.vm.classes.findIdx? fun x => match x.kind with | .array component _ => component == comp | _ => false) = some c ∧ s.vm.classes[c]? = some k ∧ k.kind = .array comp (.array .int) ∧ s.vm.findClass ("[" ++ (FieldType.array .int).toString) = some c := by
  unfold oaI Cond.before at h
  simp only [Cond.holds, Cond.value, beq_iff_eq] at h
  cases hc : s.vm.findClass (FieldType.array .int).toString with
  | none => simp [hc] at h
  | some comp =>
    simp only [hc, Option.bind_some, Option.bind_eq_some_iff, Option.map_eq_some_iff] at h
    obtain ⟨c, hi, k, hk, hb⟩ := h
    obtain ⟨hlt, hp, -⟩ := Array.findIdx?_eq_some_iff_getElem.mp hi
    have hkk : s.vm.classes[c] = k := (Array.getElem?_eq_some_iff.mp hk).2
    rw [hkk] at hp
    cases hkind : k.kind with
    | array component ty =>
      rw [hkind] at hb hp
      simp at hb hp
      exact ⟨comp, c, k, rfl, hi, hk, by rw [hkind, hp, hb.1], hb.2⟩
    | _ => rw [hkind] at hb; simp at hb
theorem oaI.moved {u U : State} (hvm : u.vm.Alike U.vm) (h : oaI u) : oaI U := by
  obtain ⟨comp, c, k, h1, h2, h3, h4, h5⟩ := oaI.spec h
  obtain ⟨k', hk', he⟩ := hvm.2.2 _ _ h3
  have hi : (U.vm.classes.findIdx? fun (x : Class) => match x.kind with | .array component _ => component == comp | _ => false) = some c := by
    have e1 := va_idx_bare U.vm comp
    have e2 := va_idx_bare u.vm comp
    rw [hvm.bare_eq] at e1
    exact (e1.symm.trans e2).trans h2
  have hkind : k'.kind = .array comp (.array .int) := by rw [he]; exact h4
  have f1 : U.vm.findClass (FieldType.array .int).toString = some comp := by rw [hvm.findClass]; exact h1
  have f2 : U.vm.findClass ("[" ++ (FieldType.array .int).toString) = some c := by rw [hvm.findClass]; exact h5
  unfold oaI Cond.before Cond.holds
  simp only [Cond.value]
  rw [f1, Option.bind_some]
  refine (congrArg (fun o : Option Nat => (o.bind (fun c => (U.vm.classes[c]?).map fun (k : Class) => match k.kind with | .array _ ty => decide (ty = FieldType.array .int) && decide (U.vm.findClass ("[" ++ (FieldType.array .int).toString) = some c) | _ => false) == some true)) hi).trans ?_
  simp [hk', hkind, f2]
/-- what the tables say, at any state of the run -/
def KU (G : GT) (U : State) : Prop := va_K (gD G) clsA [] U ∧ (∀ q ∈ arrK, ArrOfT U (gA G q.1) q.2 ∧ va_RA U (gA G q.1) q.2) ∧ (∀ q ∈ nestF, va_Nw (.fieldLinkNest q.1 q.2.1 q.2.2.1 q.2.2.2.1 q.2.2.2.2.1 q.2.2.2.2.2) U) ∧ (∀ q ∈ nestM, va_Nw (.methodLinkNest q.1 q.2.1 q.2.2.1 q.2.2.2) U) ∧ (∀ C ∈ [RX2, RX6, RX7], va_AO C U) ∧ oaI U ∧ KT G U
theorem KU.warm {G : GT} {u U : State} (hW : u.WarmedH U.vm) (h : KU G u) : KU G U := by
  obtain ⟨h1, h2, h3, h4, h5, h6, h7, h8, h9, h10, h11, h12⟩ := h
  have hvm := hW.alike
  refine ⟨va_K.moved hvm h1, fun q hq => ⟨arrOfT_moved hvm (h2 q hq).1, (h2 q hq).2.moved hvm⟩, fun q hq => (h3 q hq).warmF hW, fun q hq => (h4 q hq).warmM hW, fun C hC => (h5 C hC).moved hvm, h6.moved hvm, fun q hq => (h7 q hq).warm hW, h8.moved hvm, h9.moved hvm, h10.moved hvm, h11.moved hvm, h12.moved hvm⟩
theorem KU.same {G : GT} {u U : State} (hv : u.vm = U.vm) (h : KU G u) : KU G U := by
  obtain ⟨h1, h2, h3, h4, h5, h6, h7, h8, h9, h10, h11, h12⟩ := h
  have hvm : u.vm.Alike U.vm := by rw [hv]; exact Vm.Alike.refl _
  exact ⟨va_K.moved hvm h1, fun q hq => ⟨arrOfT_moved hvm (h2 q hq).1, (h2 q hq).2.moved hvm⟩, fun q hq => (h3 q hq).same rfl hv, fun q hq => (h4 q hq).same rfl hv, fun C hC => (h5 C hC).moved hvm, h6.moved hvm, fun q hq => (h7 q hq).same hv.symm, h8.moved hvm, h9.moved hvm, h10.moved hvm, h11.moved hvm, h12.moved hvm⟩
/-- where a method stands: all that its walk doesn't change -/
abbrev CX : Type := Program × Launch × Env × Room × State × MethodId × Array Value × List Frame × Method × Code × (State → Prop) × GT × Nat
def WX (X : CX) (H : Heap) (locs : List Loc) (cn sn : Nat) (g : JFrame) : Prop := match X with
  | (p, l, e, R, s, m, args, below, meth, c, Q, _, _) => W p l e R s m args below meth c H locs cn sn Q g
def xm (X : CX) : MethodId := X.2.2.2.2.2.1
def xG (X : CX) : GT := X.2.2.2.2.2.2.2.2.2.2.2.1
def xn (X : CX) : Nat := X.2.2.2.2.2.2.2.2.2.2.2.2
def xR (X : CX) : Room := X.2.2.2.1
/-- k is a sound precondition at pc -/
def Sd (X : CX) (pc : Nat) (Γ : List (Nat × Nat)) (τ : List Nat) (k : tK) : Prop :=
  ∀ (lo st : List Int) (h : tH) (cn sn : Nat) (H : Heap) (locs : List Loc) (ls : Array Slot), k lo st h cn sn → RH (xG X) h H → RLo (xG X) Γ (xn X) lo h ls → RS h τ st → (∀ q ∈ locs, gB (xG X) ≤ q.base) → cn ≤ (xR X).cells → sn ≤ (xR X).slots → WX X H locs cn sn (F0 (xm X) pc ls (es (xG X) τ st))
/-- what is known of a method where it stands -/
def CF (X : CX) (cc : ByteArray) (own : String) (Ts : List Cond) : Prop := match X with
  | (p, _, _, _, s, m, args, _, meth, c, _, G, nL) => p.tables.exec = Jvm.exec ∧ c.code = cc ∧ c.maxLocals = nL ∧ s.vm.findClass own = some m.cls ∧ (∀ w ∈ Ts, w.before args s = true) ∧ KU G s ∧ meth.locks = false
theorem toI {x : Int} (h : inI x) : (Int32.ofInt x).toInt = x := Int32.toInt_ofInt_of_le (by have := h.1; omega) (by have := h.2; omega)
theorem toL {x : Int} (h : inL x) : (Int64.ofInt x).toInt = x := Int64.toInt_ofInt_of_le (by have := h.1; omega) (by have := h.2; omega)
theorem inI_of (x : Int32) : inI x.toInt := ⟨Int32.le_toInt x, by have := Int32.toInt_lt x; omega⟩
theorem inL_of (x : Int64) : inL x.toInt := ⟨Int64.le_toInt x, by have := Int64.toInt_lt x; omega⟩
theorem wI_id {x : Int} (h : inI x) : wI x = x := toI h
theorem wL_id {x : Int} (h : inL x) : wL x = x := toL h
theorem ofw (x : Int) : Int32.ofInt (wI x) = Int32.ofInt x := Int32.ofInt_toInt _
theorem ofwL (x : Int) : Int64.ofInt (wL x) = Int64.ofInt x := Int64.ofInt_toInt _
section SD
variable {X : CX} {pc : Nat} {Γ : List (Nat × Nat)} {τ : List Nat} {k : tK} {cc : ByteArray} {own : String} {Ts : List Cond}
theorem Sd.weak {Γ' : List (Nat × Nat)} (hΓ : ∀ q ∈ Γ', q ∈ Γ) (hs : Sd X pc Γ' τ k) : Sd X pc Γ τ k := by
  intro lo st h cn sn H locs ls hk hH hL hS hl h1 h2
  refine hs lo st h cn sn H locs ls hk hH ⟨hL.1, ⟨hL.2.1.1, hL.2.1.2.1, fun q hq => ?_⟩, fun q hq => hL.2.2.1 q (hΓ q hq), hL.2.2.2⟩ hS hl h1 h2
  obtain ⟨z, hz, rfl⟩ := List.mem_map.mp hq
  exact hL.2.1.2.2 _ (List.mem_map.mpr ⟨z, hΓ z hz, rfl⟩)
theorem Sd.imp {k' : tK} (hi : ∀ lo st h cn sn, k lo st h cn sn → k' lo st h cn sn) (hs : Sd X pc Γ τ k') : Sd X pc Γ τ k := fun lo st h cn sn H locs ls hk hH hL hS hl h1 h2 => hs lo st h cn sn H locs ls (hi _ _ _ _ _ hk) hH hL hS hl h1 h2
theorem Sd.loop {B : tK → tK} (hB : ∀ k : tK, Sd X pc Γ τ k → Sd X pc Γ τ (B k)) : Sd X pc Γ τ (o_loop B) := by
  have key : ∀ j : Nat, Sd X pc Γ τ (o_it B j) := by
    intro j
    induction j with
    | zero => exact fun _ _ _ _ _ _ _ _ hk => hk.elim
    | succ j ih => exact hB _ ih
  intro lo st h cn sn H locs ls hk hH hL hS hl h1 h2
  obtain ⟨j, hj⟩ := hk
  exact key j lo st h cn sn H locs ls hj hH hL hS hl h1 h2
theorem RS.c1 {h : tH} {t : Nat} {st : List Int} (r : RS h (t :: τ) st) : ∃ x st', st = x :: st' ∧ vt h t x ∧ RS h τ st' := by
  cases st with
  | nil => exact r.elim
  | cons x st' => exact ⟨x, st', rfl, r.1, r.2⟩
theorem RS.c2 {h : tH} {t u : Nat} {st : List Int} (r : RS h (t :: u :: τ) st) : ∃ x y st', st = x :: y :: st' ∧ vt h t x ∧ vt h u y ∧ RS h τ st' := by
  obtain ⟨x, s1, rfl, h1, r1⟩ := r.c1
  obtain ⟨y, s2, rfl, h2, r2⟩ := r1.c1
  exact ⟨x, y, s2, rfl, h1, h2, r2⟩
theorem RS.c3 {h : tH} {t u v : Nat} {st : List Int} (r : RS h (t :: u :: v :: τ) st) : ∃ x y z st', st = x :: y :: z :: st' ∧ vt h t x ∧ vt h u y ∧ vt h v z ∧ RS h τ st' := by
  obtain ⟨x, y, s1, rfl, h1, h2, r1⟩ := r.c2
  obtain ⟨z, s2, rfl, h3, r2⟩ := r1.c1
  exact ⟨x, y, z, s2, rfl, h1, h2, h3, r2⟩
/-- a row that only pushes a known value -/
theorem sd_push {v : Int} {ty len : Nat} (hv : ∀ h : tH, vt h ty v) (row : ∀ (H : Heap) (locs : List Loc) (cn sn : Nat) (ls : Array Slot) (rest : List Value), WX X H locs cn sn (F0 (xm X) (pc + len) ls (ev (xG X) ty v :: rest)) → WX X H locs cn sn (F0 (xm X) pc ls rest)) (hs : Sd X (pc + len) Γ (ty :: τ) k) : Sd X pc Γ τ (o_const v k) := by
  intro lo st h cn sn H locs ls hk hH hL hS hl h1 h2
  exact row H locs cn sn ls _ (hs lo (v :: st) h cn sn H locs ls hk hH hL ⟨hv h, hS⟩ hl h1 h2)
theorem sd_iconst (hC : CF X cc own Ts) {n : Int} (hdg : decode cc pc = .ok (.iconst n, 1)) (hn : inI n) (hs : Sd X (pc + 1) Γ (0 :: τ) k) : Sd X pc Γ τ (o_const n k) := by
  refine sd_push (ty := 0) (len := 1) (fun _ => hn) ?_ hs
  intro H locs cn sn ls rest kk
  obtain ⟨p, l, e, R, s, m, args, below, meth, c, Q, G, nL⟩ := X
  obtain ⟨hx, hb, hml, hown, hts, hK, hlk⟩ := hC
  exact lv_iconst hx hb hdg rfl kk
theorem sd_bipush (hC : CF X cc own Ts) {n : Int} (hdg : decode cc pc = .ok (.bipush n, 2)) (hn : -128 ≤ n ∧ n ≤ 127) (hs : Sd X (pc + 2) Γ (0 :: τ) k) : Sd X pc Γ τ (o_const n k) := by
  refine sd_push (ty := 0) (len := 2) (fun _ => ⟨by have := hn.1; omega, by have := hn.2; omega⟩) ?_ hs
  intro H locs cn sn ls rest kk
  obtain ⟨p, l, e, R, s, m, args, below, meth, c, Q, G, nL⟩ := X
  obtain ⟨hx, hb, hml, hown, hts, hK, hlk⟩ := hC
  refine lv_bipush hx hb hdg ?_ kk
  apply Int32.toInt_inj.mp
  rw [toI ⟨by have := hn.1; omega, by have := hn.2; omega⟩, Int8.toInt_toInt32, Int8.toInt_ofInt_of_le (by have := hn.1; omega) (by have := hn.2; omega)]
theorem sd_sipush (hC : CF X cc own Ts) {n : Int} (hdg : decode cc pc = .ok (.sipush n, 3)) (hn : -32768 ≤ n ∧ n ≤ 32767) (hs : Sd X (pc + 3) Γ (0 :: τ) k) : Sd X pc Γ τ (o_const n k) := by
  refine sd_push (ty := 0) (len := 3) (fun _ => ⟨by have := hn.1; omega, by have := hn.2; omega⟩) ?_ hs
  intro H locs cn sn ls rest kk
  obtain ⟨p, l, e, R, s, m, args, below, meth, c, Q, G, nL⟩ := X
  obtain ⟨hx, hb, hml, hown, hts, hK, hlk⟩ := hC
  refine lv_sipush hx hb hdg ?_ kk
  apply Int32.toInt_inj.mp
  rw [toI ⟨by have := hn.1; omega, by have := hn.2; omega⟩, Int16.toInt_toInt32, Int16.toInt_ofInt_of_le (by have := hn.1; omega) (by have := hn.2; omega)]
theorem sd_ldc (hC : CF X cc own Ts) {n : Int} {index : Nat} (hw : Cond.constant own index (Int32.ofInt n) ∈ Ts) (hdg : decode cc pc = .ok (.ldc index, 2)) (hn : inI n) (hs : Sd X (pc + 2) Γ (0 :: τ) k) : Sd X pc Γ τ (o_const n k) := by
  refine sd_push (ty := 0) (len := 2) (fun _ => hn) ?_ hs
  intro H locs cn sn ls rest kk
  obtain ⟨p, l, e, R, s, m, args, below, meth, c, Q, G, nL⟩ := X
  obtain ⟨hx, hb, hml, hown, hts, hK, hlk⟩ := hC
  exact lv_ldc hx hb hown (hts _ hw) hdg kk
theorem sd_lconst (hC : CF X cc own Ts) {n : Fin 2} {v : Int} (hv : v = ((n : Nat) : Int)) (hdg : decode cc pc = .ok (.lconst n, 1)) (hs : Sd X (pc + 1) Γ (1 :: τ) k) : Sd X pc Γ τ (o_const v k) := by
  subst hv
  refine sd_push (ty := 1) (len := 1) (fun _ => ⟨by have := n.2; omega, by have := n.2; omega⟩) ?_ hs
  intro H locs cn sn ls rest kk
  obtain ⟨p, l, e, R, s, m, args, below, meth, c, Q, G, nL⟩ := X
  obtain ⟨hx, hb, hml, hown, hts, hK, hlk⟩ := hC
  exact lv_lconst hx hb hdg rfl kk
theorem sd_ldc2 (hC : CF X cc own Ts) {n : Int} {index : Nat} (hw : Cond.constantLong own index (Int64.ofInt n) ∈ Ts) (hdg : decode cc pc = .ok (.ldc2_w index, 3)) (hn : inL n) (hs : Sd X (pc + 3) Γ (1 :: τ) k) : Sd X pc Γ τ (o_const n k) := by
  refine sd_push (ty := 1) (len := 3) (fun _ => hn) ?_ hs
  intro H locs cn sn ls rest kk
  obtain ⟨p, l, e, R, s, m, args, below, meth, c, Q, G, nL⟩ := X
  obtain ⟨hx, hb, hml, hown, hts, hK, hlk⟩ := hC
  exact W.ldc2 hx hb hown (hts _ hw) rfl hdg kk
end SD

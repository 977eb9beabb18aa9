/-! ===== soundness of writes, arrays, new ===== -/
/-- a field's declared type and its type code agree -/
def cty (ty : FieldType) (t : Nat) : Bool := match ty with
  | .int => t == 0
  | .long => t == 1
  | .byte => t == 2
  | .boolean => t == 3
  | .object _ => Nat.ble 7 t
  | .array _ => Nat.ble 7 t
  | _ => false
theorem wB_id {x : Int} (h : -128 ≤ x ∧ x ≤ 127) : (Int32.ofInt x).toInt8.toInt32 = Int32.ofInt x := by
  apply Int32.toInt_inj.mp
  rw [Int8.toInt_toInt32, Int32.toInt_toInt8, toI ⟨by omega, by omega⟩]
  exact Int.bmod_eq_of_le (by omega) (by omega)
theorem ev_nf {G : GT} {h : tH} {ty : FieldType} {t : Nat} {x : Int} (hc : cty ty t = true) (hv : vt h t x) : narrow ty (ev G t x) = ev G t x ∧ fits ty (ev G t x) = true := by
  cases ty with
  | int =>
    have : t = 0 := by simpa [cty] using hc
    subst this
    exact ⟨rfl, rfl⟩
  | long =>
    have : t = 1 := by simpa [cty] using hc
    subst this
    exact ⟨rfl, rfl⟩
  | byte =>
    have : t = 2 := by simpa [cty] using hc
    subst this
    refine ⟨congrArg Value.int (wB_id hv), ?_⟩
    show (decide (-128 ≤ Int32.ofInt x) && decide (Int32.ofInt x ≤ 127)) = true
    have hx : inI x := ⟨by have := hv.1; omega, by have := hv.2; omega⟩
    have e1 : (-128 : Int32).toInt = -128 := by decide
    have e2 : (127 : Int32).toInt = 127 := by decide
    have h1 : -128 ≤ Int32.ofInt x := by rw [Int32.le_iff_toInt_le, toI hx, e1]; exact hv.1
    have h2 : Int32.ofInt x ≤ 127 := by rw [Int32.le_iff_toInt_le, toI hx, e2]; exact hv.2
    simp [h1, h2]
  | boolean =>
    have : t = 3 := by simpa [cty] using hc
    subst this
    rcases hv with rfl | rfl <;> exact ⟨rfl, rfl⟩
  | object C =>
    have h7 : 7 ≤ t := Nat.le_of_ble_eq_true hc
    rw [ev_obj G h7]
    split <;> exact ⟨rfl, rfl⟩
  | array C =>
    have h7 : 7 ≤ t := Nat.le_of_ble_eq_true hc
    rw [ev_obj G h7]
    split <;> exact ⟨rfl, rfl⟩
  | _ => cases hc
theorem clampI {i : Int} (h0 : 0 ≤ i) (h1 : i ≤ 2147483647) : (Int32.ofInt i).toNatClampNeg = i.toNat := by
  show (Int32.ofInt i).toInt.toNat = i.toNat
  rw [toI ⟨by omega, h1⟩]
theorem clampIn {i : Int} {n : Nat} (h0 : 0 ≤ i) (h1 : i ≤ 100000) (h2 : i < n) : ¬ (Int32.ofInt i < 0 ∨ n ≤ (Int32.ofInt i).toNatClampNeg) := by
  rw [clampI h0 (by omega), of_0, of_lt ⟨by omega, by omega⟩ inI_0]
  omega
section SD5
variable {X : CX} {pc : Nat} {Γ Γ' : List (Nat × Nat)} {τ : List Nat} {k kt kf : tK} {cc : ByteArray} {own : String} {Ts : List Cond}
/-- what a putfield needs to know -/
theorem put_core (hC : CF X cc own Ts) {ci j : Nat} {C : String} {T : u_T} {N : Nat} (ty0 : Nat → FieldType) (hty : ∀ k, k < N → parseFieldDescriptor (T k).2.2.1 = some (ty0 k)) (hnm : ∀ a, a < N → ∀ b, b < N → a ≠ b → (T a).2.1 ≠ (T b).2.1) (hc : clsA[ci]? = some (C, T, N)) (hj : j < N) (hin : ∀ w ∈ u_ws C T N, w ∈ Ts) (hct : cty (ty0 j) (ft (10 + ci) j) = true)
    (row : ∀ (H : Heap) (locs : List Loc) (cn sn : Nat) (ls : Array Slot) (rest : List Value) (a : Nat) (v : Value) (cell : Cell) (sl : Nat), narrow (ty0 j) v = v → fits (ty0 j) v = true → sl = (gD (xG X)).2 ci j → H[a]? = some cell → cell.cls = (gD (xG X)).1 ci → cell.vm = .none → sl < cell.slots.size → (∀ H' : Heap, H'[a]? = some (cell.setSlot sl v) → H'.size = H.size → (∀ q, q ≠ a → H'[q]? = H[q]?) → WX X H' (locs ++ [⟨a, sl⟩]) cn sn (F0 (xm X) (pc + 3) ls rest)) → WX X H locs cn sn (F0 (xm X) pc ls (v :: .ref a :: rest)))
    {lo st : List Int} {h : tH} {cn sn : Nat} {H : Heap} {locs : List Loc} {ls : Array Slot} {a v : Int} (hs : Sd X (pc + 3) Γ τ k) (hk : k lo st (Up h a j v) cn sn) (hH : RH (xG X) h H) (hL : RLo (xG X) Γ (xn X) lo h ls) (hS : RS h τ st) (hl : ∀ q ∈ locs, gB (xG X) ≤ q.base) (h1 : cn ≤ (xR X).cells) (h2 : sn ≤ (xR X).slots) (hka : Kd h a = some (10 + ci)) (hv : vt h (ft (10 + ci) j) v) :
    WX X H locs cn sn (F0 (xm X) pc ls (ev (xG X) (ft (10 + ci) j) v :: ev (xG X) (10 + ci) a :: es (xG X) τ st)) := by
  have hci : ci < 11 := (List.getElem?_eq_some_iff.mp hc).1
  obtain ⟨⟨cell, q1, q2, q3, q4⟩, hvt⟩ := hH.obj hci hka hc
  have hp := hH.pos hka
  have hbd := (hH.2.2.2 a _ hka).1.1
  have hap : ∀ x y, x < N → y < N → x ≠ y → (gD (xG X)).2 ci x ≠ (gD (xG X)).2 ci y := by
    obtain ⟨p, l, e, R, s, m, args, below, meth, c, Q, G, nL⟩ := X
    obtain ⟨hx, hb, hml, hown, hts, hK, hlocks⟩ := hC
    exact va_apart (own := own) hts hin ty0 hty hnm hK.1 hc
  rw [ev_obj (xG X) (by omega : 7 ≤ 10 + ci), if_neg (by omega)]
  obtain ⟨n1, n2⟩ := ev_nf (G := xG X) hct hv
  refine row H locs cn sn ls _ a.toNat _ cell _ n1 n2 rfl q1 q2 q3 (k2_hasslot (q4 j hj)) fun H' e1 e2 e3 => ?_
  refine hs lo st (Up h a j v) cn sn H' _ ls hk (hH.putO hci hka hc hv ⟨_, e1, q2, q3, t_set q4 hap hj _⟩ e2 e3) (hL.mono hLe_Up) (hS.mono hLe_Up) (fun q hq => ?_) h1 h2
  rcases List.mem_append.mp hq with z | z
  · exact hl q z
  · rw [List.mem_singleton.mp z]
    show gB (xG X) ≤ a.toNat
    omega
theorem put_row (hC : CF X cc own Ts) {ci j index : Nat} {C : String} {T : u_T} {N : Nat} (ty0 : Nat → FieldType) (hty : ∀ k, k < N → parseFieldDescriptor (T k).2.2.1 = some (ty0 k)) (hc : clsA[ci]? = some (C, T, N)) (hj : j < N) (hin : ∀ w ∈ u_ws C T N, w ∈ Ts) (hfin : (T j).2.2.2 = false) (hlk : Cond.fieldLink own index (T j).1 (T j).2.1 (T j).2.2.1 ∈ Ts) (hdg : decode cc pc = .ok (.putfield index, 3))
    (H : Heap) (locs : List Loc) (cn sn : Nat) (ls : Array Slot) (rest : List Value) (a : Nat) (v : Value) (cell : Cell) (sl : Nat) (hn : narrow (ty0 j) v = v) (hf : fits (ty0 j) v = true) (hsl0 : sl = (gD (xG X)).2 ci j) (q1 : H[a]? = some cell) (q2 : cell.cls = (gD (xG X)).1 ci) (q3 : cell.vm = .none) (q5 : sl < cell.slots.size) (kk : ∀ H' : Heap, H'[a]? = some (cell.setSlot sl v) → H'.size = H.size → (∀ q, q ≠ a → H'[q]? = H[q]?) → WX X H' (locs ++ [⟨a, sl⟩]) cn sn (F0 (xm X) (pc + 3) ls rest)) : WX X H locs cn sn (F0 (xm X) pc ls (v :: .ref a :: rest)) := by
  obtain ⟨p, l, e, R, s, m, args, below, meth, c, Q, G, nL⟩ := X
  obtain ⟨hx, hb, hml, hown, hts, hK, hlocks⟩ := hC
  obtain ⟨hSl, hfc, kC, hkC, hkind⟩ := hK.1.1 ci _ hc
  obtain ⟨cf, kf, fi, f, hfi, hsl⟩ := hSl j hj
  have hsl : f.slot = sl := by rw [hsl, hsl0]; rfl
  have hlay := hts _ (hin _ (u_in_lay hj))
  unfold u_lay at hlay
  rw [if_neg (by rw [hfin]; decide)] at hlay
  have hst := (u_facts hfc hkC (u_lays hts hin hj) hfi).1
  have h6 := u_store hfc hkC hkind hlay hfi (hty j hj) hn hf
  refine W.putK hx hb (f := f) ⟨hown, hts _ hlk, ⟨_, _, _, hfi⟩, hst⟩ (by rw [q2]; exact h6) q1 q3 (by rw [hsl]; exact q5) rfl rfl hdg fun H' e1 e2 e3 => ?_
  rw [hsl] at e1 ⊢
  exact kk H' e1 e2 e3
theorem put_rowN (hC : CF X cc own Ts) {ci j index : Nat} {C host : String} {T : u_T} {N : Nat} (ty0 : Nat → FieldType) (hty : ∀ k, k < N → parseFieldDescriptor (T k).2.2.1 = some (ty0 k)) (hc : clsA[ci]? = some (C, T, N)) (hj : j < N) (hin : ∀ w ∈ u_ws C T N, w ∈ Ts) (hfin : (T j).2.2.2 = false) (hlk : (own, index, (T j).1, (T j).2.1, (T j).2.2.1, host) ∈ nestF) (hdg : decode cc pc = .ok (.putfield index, 3))
    (H : Heap) (locs : List Loc) (cn sn : Nat) (ls : Array Slot) (rest : List Value) (a : Nat) (v : Value) (cell : Cell) (sl : Nat) (hn : narrow (ty0 j) v = v) (hf : fits (ty0 j) v = true) (hsl0 : sl = (gD (xG X)).2 ci j) (q1 : H[a]? = some cell) (q2 : cell.cls = (gD (xG X)).1 ci) (q3 : cell.vm = .none) (q5 : sl < cell.slots.size) (kk : ∀ H' : Heap, H'[a]? = some (cell.setSlot sl v) → H'.size = H.size → (∀ q, q ≠ a → H'[q]? = H[q]?) → WX X H' (locs ++ [⟨a, sl⟩]) cn sn (F0 (xm X) (pc + 3) ls rest)) : WX X H locs cn sn (F0 (xm X) pc ls (v :: .ref a :: rest)) := by
  obtain ⟨p, l, e, R, s, m, args, below, meth, c, Q, G, nL⟩ := X
  obtain ⟨hx, hb, hml, hown, hts, hK, hlocks⟩ := hC
  obtain ⟨hSl, hfc, kC, hkC, hkind⟩ := hK.1.1 ci _ hc
  obtain ⟨cf, kf, fi, f, hfi, hsl⟩ := hSl j hj
  have hsl : f.slot = sl := by rw [hsl, hsl0]; rfl
  have hlay := hts _ (hin _ (u_in_lay hj))
  unfold u_lay at hlay
  rw [if_neg (by rw [hfin]; decide)] at hlay
  have hst := (u_facts hfc hkC (u_lays hts hin hj) hfi).1
  have h6 := u_store hfc hkC hkind hlay hfi (hty j hj) hn hf
  refine va_WputK hx hb (f := f) hown (va_Nw.use rfl (hK.2.2.1 _ hlk)) hfi hst (by rw [q2]; exact h6) q1 q3 (by rw [hsl]; exact q5) rfl rfl hdg fun H' e1 e2 e3 => ?_
  rw [hsl] at e1 ⊢
  exact kk H' e1 e2 e3
theorem put_rowF (hC : CF X cc own Ts) {ci j index : Nat} {C : String} {T : u_T} {N : Nat} (ty0 : Nat → FieldType) (hty : ∀ k, k < N → parseFieldDescriptor (T k).2.2.1 = some (ty0 k)) (hc : clsA[ci]? = some (C, T, N)) (hj : j < N) (hin : ∀ w ∈ u_ws C T N, w ∈ Ts) (hfin : (T j).2.2.2 = true) (hdecl : (T j).1 = own) (hinit : X.2.2.2.2.2.2.2.2.1.name = "<init>") (hlk : Cond.fieldLink own index (T j).1 (T j).2.1 (T j).2.2.1 ∈ Ts) (hdg : decode cc pc = .ok (.putfield index, 3))
    (H : Heap) (locs : List Loc) (cn sn : Nat) (ls : Array Slot) (rest : List Value) (a : Nat) (v : Value) (cell : Cell) (sl : Nat) (hn : narrow (ty0 j) v = v) (hf : fits (ty0 j) v = true) (hsl0 : sl = (gD (xG X)).2 ci j) (q1 : H[a]? = some cell) (q2 : cell.cls = (gD (xG X)).1 ci) (q3 : cell.vm = .none) (q5 : sl < cell.slots.size) (kk : ∀ H' : Heap, H'[a]? = some (cell.setSlot sl v) → H'.size = H.size → (∀ q, q ≠ a → H'[q]? = H[q]?) → WX X H' (locs ++ [⟨a, sl⟩]) cn sn (F0 (xm X) (pc + 3) ls rest)) : WX X H locs cn sn (F0 (xm X) pc ls (v :: .ref a :: rest)) := by
  obtain ⟨p, l, e, R, s, m, args, below, meth, c, Q, G, nL⟩ := X
  obtain ⟨hx, hb, hml, hown, hts, hK, hlocks⟩ := hC
  obtain ⟨hSl, hfc, kC, hkC, hkind⟩ := hK.1.1 ci _ hc
  obtain ⟨cf, kf, fi, f, hfi, hsl⟩ := hSl j hj
  have hsl : f.slot = sl := by rw [hsl, hsl0]; rfl
  have hlay := hts _ (hin _ (u_in_lay hj))
  unfold u_lay at hlay
  rw [if_pos hfin] at hlay
  have hst := (u_facts hfc hkC (u_lays hts hin hj) hfi).1
  have hcf : m.cls = cf := by
    obtain ⟨_, _, c', _, _, _, -, -, hf', -, -, -, hown2, -⟩ := Cond.laysFinal_spec hlay
    have e1 : c' = cf := by have := hfi.symm.trans hf'; simp at this; exact this.1.symm
    rw [hdecl] at hown2
    rw [← e1]; exact Option.some.inj (hown.symm.trans hown2)
  have h6 := u_fits hfc hkC hkind (Or.inr hlay) hfi (hty j hj) hn hf
  refine W.putFinK hx hb hown (hts _ hlk) hfi hst hcf hinit (by rw [q2]; exact h6) q1 q3 (by rw [hsl]; exact q5) rfl rfl hdg fun H' e1 e2 e3 => ?_
  rw [hsl] at e1 ⊢
  exact kk H' e1 e2 e3
theorem sd_put (hC : CF X cc own Ts) {ci j index : Nat} {C : String} {T : u_T} {N : Nat} {i : Int} (ty0 : Nat → FieldType) (hty : ∀ k, k < N → parseFieldDescriptor (T k).2.2.1 = some (ty0 k)) (hnm : ∀ a, a < N → ∀ b, b < N → a ≠ b → (T a).2.1 ≠ (T b).2.1) (hc : clsA[ci]? = some (C, T, N)) (hi : i = (j : Int)) (hj : j < N) (hin : ∀ w ∈ u_ws C T N, w ∈ Ts) (hct : cty (ty0 j) (ft (10 + ci) j) = true) (hfin : (T j).2.2.2 = false) (hlk : Cond.fieldLink own index (T j).1 (T j).2.1 (T j).2.2.1 ∈ Ts) (hdg : decode cc pc = .ok (.putfield index, 3)) (hs : Sd X (pc + 3) Γ τ k) : Sd X pc Γ (ft (10 + ci) j :: (10 + ci) :: τ) (o_put i k) := by
  subst hi
  intro lo st h cn sn H locs ls hk hH hL hS hl h1 h2
  obtain ⟨v, a, st, rfl, v1, v2, hS⟩ := hS.c2
  exact put_core hC ty0 hty hnm hc hj hin hct (put_row hC ty0 hty hc hj hin hfin hlk hdg) hs hk.2 hH hL hS hl h1 h2 ((vt_obj (by omega) v2).resolve_left hk.1) v1
theorem sd_putN (hC : CF X cc own Ts) {ci j index : Nat} {C host : String} {T : u_T} {N : Nat} {i : Int} (ty0 : Nat → FieldType) (hty : ∀ k, k < N → parseFieldDescriptor (T k).2.2.1 = some (ty0 k)) (hnm : ∀ a, a < N → ∀ b, b < N → a ≠ b → (T a).2.1 ≠ (T b).2.1) (hc : clsA[ci]? = some (C, T, N)) (hi : i = (j : Int)) (hj : j < N) (hin : ∀ w ∈ u_ws C T N, w ∈ Ts) (hct : cty (ty0 j) (ft (10 + ci) j) = true) (hfin : (T j).2.2.2 = false) (hlk : (own, index, (T j).1, (T j).2.1, (T j).2.2.1, host) ∈ nestF) (hdg : decode cc pc = .ok (.putfield index, 3)) (hs : Sd X (pc + 3) Γ τ k) : Sd X pc Γ (ft (10 + ci) j :: (10 + ci) :: τ) (o_put i k) := by
  subst hi
  intro lo st h cn sn H locs ls hk hH hL hS hl h1 h2
  obtain ⟨v, a, st, rfl, v1, v2, hS⟩ := hS.c2
  exact put_core hC ty0 hty hnm hc hj hin hct (put_rowN hC ty0 hty hc hj hin hfin hlk hdg) hs hk.2 hH hL hS hl h1 h2 ((vt_obj (by omega) v2).resolve_left hk.1) v1
theorem sd_putF (hC : CF X cc own Ts) {ci j index : Nat} {C : String} {T : u_T} {N : Nat} {i : Int} (ty0 : Nat → FieldType) (hty : ∀ k, k < N → parseFieldDescriptor (T k).2.2.1 = some (ty0 k)) (hnm : ∀ a, a < N → ∀ b, b < N → a ≠ b → (T a).2.1 ≠ (T b).2.1) (hc : clsA[ci]? = some (C, T, N)) (hi : i = (j : Int)) (hj : j < N) (hin : ∀ w ∈ u_ws C T N, w ∈ Ts) (hct : cty (ty0 j) (ft (10 + ci) j) = true) (hfin : (T j).2.2.2 = true) (hdecl : (T j).1 = own) (hinit : X.2.2.2.2.2.2.2.2.1.name = "<init>") (hlk : Cond.fieldLink own index (T j).1 (T j).2.1 (T j).2.2.1 ∈ Ts) (hdg : decode cc pc = .ok (.putfield index, 3)) (hs : Sd X (pc + 3) Γ τ k) : Sd X pc Γ (ft (10 + ci) j :: (10 + ci) :: τ) (o_put i k) := by
  subst hi
  intro lo st h cn sn H locs ls hk hH hL hS hl h1 h2
  obtain ⟨v, a, st, rfl, v1, v2, hS⟩ := hS.c2
  exact put_core hC ty0 hty hnm hc hj hin hct (put_rowF hC ty0 hty hc hj hin hfin hdecl hinit hlk hdg) hs hk.2 hH hL hS hl h1 h2 ((vt_obj (by omega) v2).resolve_left hk.1) v1
theorem sd_putz (hC : CF X cc own Ts) {ci j index : Nat} {C : String} {T : u_T} {N : Nat} {i : Int} (ty0 : Nat → FieldType) (hty : ∀ k, k < N → parseFieldDescriptor (T k).2.2.1 = some (ty0 k)) (hnm : ∀ a, a < N → ∀ b, b < N → a ≠ b → (T a).2.1 ≠ (T b).2.1) (hc : clsA[ci]? = some (C, T, N)) (hi : i = (j : Int)) (hj : j < N) (hin : ∀ w ∈ u_ws C T N, w ∈ Ts) (h3 : ft (10 + ci) j = 3) (hct : cty (ty0 j) (ft (10 + ci) j) = true) (hfin : (T j).2.2.2 = false) (hlk : Cond.fieldLink own index (T j).1 (T j).2.1 (T j).2.2.1 ∈ Ts) (hdg : decode cc pc = .ok (.putfield index, 3)) (hs : Sd X (pc + 3) Γ τ k) : Sd X pc Γ (0 :: (10 + ci) :: τ) (o_putz i k) := by
  subst hi
  intro lo st h cn sn H locs ls hk hH hL hS hl h1 h2
  obtain ⟨v, a, st, rfl, v1, v2, hS⟩ := hS.c2
  have := put_core hC ty0 hty hnm hc hj hin hct (put_row hC ty0 hty hc hj hin hfin hlk hdg) hs hk.2.2 hH hL hS hl h1 h2 ((vt_obj (by omega) v2).resolve_left hk.1) (by rw [h3]; exact hk.2.1)
  rw [h3] at this
  exact this
/-- an element read -/
theorem sd_ald {e : Nat} (row : ∀ (H : Heap) (locs : List Loc) (cn sn : Nat) (ls : Array Slot) (rest : List Value) (a n : Nat) (f : Nat → Value) (j : Int32), H[a]? = some (arrV (gA (xG X) (100 + e)) n f) → ¬ (j < 0 ∨ n ≤ j.toNatClampNeg) → WX X H locs cn sn (F0 (xm X) (pc + 1) ls (f j.toNatClampNeg :: rest)) → WX X H locs cn sn (F0 (xm X) pc ls (.int j :: .ref a :: rest))) (hs : Sd X (pc + 1) Γ (sty e :: τ) k) : Sd X pc Γ (0 :: (100 + e) :: τ) (o_ald k) := by
  intro lo st h cn sn H locs ls hk hH hL hS hl h1 h2
  obtain ⟨i, a, st, rfl, v1, v2, hS⟩ := hS.c2
  obtain ⟨hne, hi, hk⟩ := hk
  have hka : Kd h a = some (100 + e) := (vt_obj (by omega) v2).resolve_left hne
  obtain ⟨q1, q2, q3⟩ := hH.arr hka
  have hp := hH.pos hka
  have kk := hs lo (Me h a i :: st) h cn sn H locs ls hk hH hL ⟨vt_sty (q3 i hi.1 hi.2), hS⟩ hl h1 h2
  show WX X H locs cn sn (F0 (xm X) pc ls (ev (xG X) 0 i :: ev (xG X) (100 + e) a :: es (xG X) τ st))
  rw [ev_obj (xG X) (by omega : 7 ≤ 100 + e), if_neg (by omega)]
  refine row H locs cn sn ls _ a.toNat _ _ _ q1 (clampIn hi.1 (by omega) (by omega)) ?_
  rw [clampI hi.1 (by omega)]
  have kk : WX X H locs cn sn (F0 (xm X) (pc + 1) ls (ev (xG X) (sty e) (Me h a i) :: es (xG X) τ st)) := kk
  rw [ev_sty] at kk
  rw [show ((i.toNat : Nat) : Int) = i by omega]
  exact kk
theorem sd_iaload (hC : CF X cc own Ts) (hdg : decode cc pc = .ok (.iaload, 1)) (hs : Sd X (pc + 1) Γ (0 :: τ) k) : Sd X pc Γ (0 :: 100 :: τ) (o_ald k) := by
  refine sd_ald (e := 0) ?_ hs
  intro H locs cn sn ls rest a n f j q1 q2 kk
  obtain ⟨p, l, e, R, s, m, args, below, meth, c, Q, G, nL⟩ := X
  obtain ⟨hx, hb, hml, hown, hts, hK, hlocks⟩ := hC
  exact W.iald hx hb q1 ((hK.2.1 (100, .int) (by decide)).1 n f) (fun q => by cases q) (by rw [arrV_size]; exact q2) (arrV_read _ _ (by omega)) rfl rfl hdg kk
theorem sd_laload (hC : CF X cc own Ts) (hdg : decode cc pc = .ok (.laload, 1)) (hs : Sd X (pc + 1) Γ (1 :: τ) k) : Sd X pc Γ (0 :: 101 :: τ) (o_ald k) := by
  refine sd_ald (e := 1) ?_ hs
  intro H locs cn sn ls rest a n f j q1 q2 kk
  obtain ⟨p, l, e, R, s, m, args, below, meth, c, Q, G, nL⟩ := X
  obtain ⟨hx, hb, hml, hown, hts, hK, hlocks⟩ := hC
  exact W.lald hx hb q1 ((hK.2.1 (101, .long) (by decide)).1 n f) (fun q => by cases q) (by rw [arrV_size]; exact q2) (arrV_read _ _ (by omega)) rfl rfl hdg kk
theorem sd_baload (hC : CF X cc own Ts) (hdg : decode cc pc = .ok (.baload, 1)) (hs : Sd X (pc + 1) Γ (0 :: τ) k) : Sd X pc Γ (0 :: 102 :: τ) (o_ald k) := by
  refine sd_ald (e := 2) ?_ hs
  intro H locs cn sn ls rest a n f j q1 q2 kk
  obtain ⟨p, l, e, R, s, m, args, below, meth, c, Q, G, nL⟩ := X
  obtain ⟨hx, hb, hml, hown, hts, hK, hlocks⟩ := hC
  exact W.bald hx hb q1 ((hK.2.1 (102, .byte) (by decide)).1 n f) (fun q => by cases q) (by rw [arrV_size]; exact q2) (arrV_read _ _ (by omega)) rfl rfl hdg kk
theorem sd_zaload (hC : CF X cc own Ts) (hdg : decode cc pc = .ok (.baload, 1)) (hs : Sd X (pc + 1) Γ (0 :: τ) k) : Sd X pc Γ (0 :: 103 :: τ) (o_ald k) := by
  refine sd_ald (e := 3) ?_ hs
  intro H locs cn sn ls rest a n f j q1 q2 kk
  obtain ⟨p, l, e, R, s, m, args, below, meth, c, Q, G, nL⟩ := X
  obtain ⟨hx, hb, hml, hown, hts, hK, hlocks⟩ := hC
  exact W.zald hx hb q1 ((hK.2.1 (103, .boolean) (by decide)).1 n f) (fun q => by cases q) (by rw [arrV_size]; exact q2) (arrV_read _ _ (by omega)) rfl rfl hdg kk
theorem sd_aaload (hC : CF X cc own Ts) {e : Nat} {ty : FieldType} (hq : (100 + e, ty) ∈ arrK) (hr : ty.isReference = true) (h7 : sty e = e) (hdg : decode cc pc = .ok (.aaload, 1)) (hs : Sd X (pc + 1) Γ (e :: τ) k) : Sd X pc Γ (0 :: (100 + e) :: τ) (o_ald k) := by
  refine sd_ald (e := e) ?_ (by rw [h7]; exact hs)
  intro H locs cn sn ls rest a n f j q1 q2 kk
  obtain ⟨p, l, ee, R, s, m, args, below, meth, c, Q, G, nL⟩ := X
  obtain ⟨hx, hb, hml, hown, hts, hK, hlocks⟩ := hC
  exact W.aald hx hb q1 ((hK.2.1 _ hq).1 n f) hr (fun q => by cases q) (by rw [arrV_size]; exact q2) (arrV_read _ _ (by omega)) rfl rfl hdg kk
theorem sd_alen (hC : CF X cc own Ts) {e : Nat} {ty : FieldType} (hq : (100 + e, ty) ∈ arrK) (hdg : decode cc pc = .ok (.arraylength, 1)) (hs : Sd X (pc + 1) Γ (0 :: τ) k) : Sd X pc Γ ((100 + e) :: τ) (o_len k) := by
  intro lo st h cn sn H locs ls hk hH hL hS hl h1 h2
  obtain ⟨a, st, rfl, v2, hS⟩ := hS.c1
  obtain ⟨hne, hk⟩ := hk
  have hka : Kd h a = some (100 + e) := (vt_obj (by omega) v2).resolve_left hne
  obtain ⟨q1, q2, q3⟩ := hH.arr hka
  have hp := hH.pos hka
  have kk := hs lo (Ln h a :: st) h cn sn H locs ls hk hH hL ⟨⟨by omega, by omega⟩, hS⟩ hl h1 h2
  obtain ⟨p, l, ee, R, s, m, args, below, meth, c, Q, G, nL⟩ := X
  obtain ⟨hx, hb, hml, hown, hts, hK, hlocks⟩ := hC
  show W p l ee R s m args below meth c H locs cn sn Q (F0 m pc ls (ev G (100 + e) a :: es G τ st))
  rw [ev_obj G (by omega : 7 ≤ 100 + e), if_neg (by omega)]
  refine W.alen hx hb q1 ((hK.2.1 _ hq).1 _ _) (n := Int32.ofInt (Ln h a)) ?_ rfl rfl hdg kk
  rw [arrV_size]
  show Int32.ofNat _ = _
  rw [← Int32.ofInt_eq_ofNat, show (((Ln h a).toNat : Nat) : Int) = Ln h a by omega]
theorem ast_step {e : Nat} {lo st : List Int} {h : tH} {cn sn : Nat} {H H' : Heap} {locs : List Loc} {ls : Array Slot} {a i v : Int} (hs : Sd X (pc + 1) Γ τ k) (hk : k lo st (Up h a i v) cn sn) (hH : RH (xG X) h H) (hL : RLo (xG X) Γ (xn X) lo h ls) (hS : RS h τ st) (hl : ∀ q ∈ locs, gB (xG X) ≤ q.base) (h1 : cn ≤ (xR X).cells) (h2 : sn ≤ (xR X).slots) (hka : Kd h a = some (100 + e)) (hi : 0 ≤ i ∧ i < Ln h a) (hv : vt h e v)
    (e1 : H'[a.toNat]? = some ((arrV (gA (xG X) (100 + e)) (Ln h a).toNat (fun j => ev (xG X) e (Me h a j))).setSlot (Int32.ofInt i).toNatClampNeg (ev (xG X) e v))) (e2 : H'.size = H.size) (e3 : ∀ q, q ≠ a.toNat → H'[q]? = H[q]?) : WX X H' (locs ++ [⟨a.toNat, (Int32.ofInt i).toNatClampNeg⟩]) cn sn (F0 (xm X) (pc + 1) ls (es (xG X) τ st)) := by
  have hbd := (hH.2.2.2 a _ hka).1.1
  have hln := (hH.arr hka).2.1
  rw [clampI hi.1 (by omega)] at e1 ⊢
  refine hs lo st (Up h a i v) cn sn H' _ ls hk (hH.putA hka hi hv e1 e2 e3) (hL.mono hLe_Up) (hS.mono hLe_Up) (fun q hq => ?_) h1 h2
  rcases List.mem_append.mp hq with z | z
  · exact hl q z
  · rw [List.mem_singleton.mp z]
    show gB (xG X) ≤ a.toNat
    omega
theorem sd_iastore (hC : CF X cc own Ts) (hdg : decode cc pc = .ok (.iastore, 1)) (hs : Sd X (pc + 1) Γ τ k) : Sd X pc Γ (0 :: 0 :: 100 :: τ) (o_ast k) := by
  intro lo st h cn sn H locs ls hk hH hL hS hl h1 h2
  obtain ⟨v, i, a, st, rfl, v0, v1, v2, hS⟩ := hS.c3
  obtain ⟨hne, hi, hk⟩ := hk
  have hka : Kd h a = some (100 + 0) := (vt_obj (by omega) v2).resolve_left hne
  obtain ⟨q1, q2, q3⟩ := hH.arr hka
  have hp := hH.pos hka
  have kk := fun H' => ast_step (H' := H') (v := v) hs hk hH hL hS hl h1 h2 hka hi v0
  obtain ⟨p, l, ee, R, s, m, args, below, meth, c, Q, G, nL⟩ := X
  obtain ⟨hx, hb, hml, hown, hts, hK, hlocks⟩ := hC
  show W p l ee R s m args below meth c H locs cn sn Q (F0 m pc ls (ev G 0 v :: ev G 0 i :: ev G (100 + 0) a :: es G τ st))
  rw [ev_obj G (by omega : 7 ≤ 100 + 0), if_neg (by omega)]
  exact W.iast hx hb q1 ((hK.2.1 (100, .int) (by decide)).1 _ _) (fun q => by cases q) (by rw [arrV_size]; exact clampIn hi.1 (by omega) (by omega)) rfl rfl hdg kk
theorem sd_lastore (hC : CF X cc own Ts) (hdg : decode cc pc = .ok (.lastore, 1)) (hs : Sd X (pc + 1) Γ τ k) : Sd X pc Γ (1 :: 0 :: 101 :: τ) (o_ast k) := by
  intro lo st h cn sn H locs ls hk hH hL hS hl h1 h2
  obtain ⟨v, i, a, st, rfl, v0, v1, v2, hS⟩ := hS.c3
  obtain ⟨hne, hi, hk⟩ := hk
  have hka : Kd h a = some (100 + 1) := (vt_obj (by omega) v2).resolve_left hne
  obtain ⟨q1, q2, q3⟩ := hH.arr hka
  have hp := hH.pos hka
  have kk := fun H' => ast_step (H' := H') (v := v) hs hk hH hL hS hl h1 h2 hka hi v0
  obtain ⟨p, l, ee, R, s, m, args, below, meth, c, Q, G, nL⟩ := X
  obtain ⟨hx, hb, hml, hown, hts, hK, hlocks⟩ := hC
  show W p l ee R s m args below meth c H locs cn sn Q (F0 m pc ls (ev G 1 v :: ev G 0 i :: ev G (100 + 1) a :: es G τ st))
  rw [ev_obj G (by omega : 7 ≤ 100 + 1), if_neg (by omega)]
  exact W.last hx hb q1 ((hK.2.1 (101, .long) (by decide)).1 _ _) (fun q => by cases q) (by rw [arrV_size]; exact clampIn hi.1 (by omega) (by omega)) rfl rfl hdg kk
theorem sd_bastore (hC : CF X cc own Ts) (hdg : decode cc pc = .ok (.bastore, 1)) (hs : Sd X (pc + 1) Γ τ k) : Sd X pc Γ (0 :: 0 :: 102 :: τ) (o_astb k) := by
  intro lo st h cn sn H locs ls hk hH hL hS hl h1 h2
  obtain ⟨v, i, a, st, rfl, v0, v1, v2, hS⟩ := hS.c3
  obtain ⟨hne, hi, hk⟩ := hk
  have hka : Kd h a = some (100 + 2) := (vt_obj (by omega) v2).resolve_left hne
  obtain ⟨q1, q2, q3⟩ := hH.arr hka
  have hp := hH.pos hka
  have hw : vt h 2 (wB v) := by
    show -128 ≤ (Int32.ofInt v).toInt8.toInt32.toInt ∧ (Int32.ofInt v).toInt8.toInt32.toInt ≤ 127
    rw [Int8.toInt_toInt32]
    exact ⟨Int8.le_toInt _, by have := Int8.toInt_lt (Int32.ofInt v).toInt8; omega⟩
  have kk := fun H' => ast_step (H' := H') (v := wB v) hs hk hH hL hS hl h1 h2 hka hi hw
  obtain ⟨p, l, ee, R, s, m, args, below, meth, c, Q, G, nL⟩ := X
  obtain ⟨hx, hb, hml, hown, hts, hK, hlocks⟩ := hC
  show W p l ee R s m args below meth c H locs cn sn Q (F0 m pc ls (ev G 0 v :: ev G 0 i :: ev G (100 + 2) a :: es G τ st))
  rw [ev_obj G (by omega : 7 ≤ 100 + 2), if_neg (by omega)]
  refine W.bast hx hb q1 ((hK.2.1 (102, .byte) (by decide)).1 _ _) (fun q => by cases q) (by rw [arrV_size]; exact clampIn hi.1 (by omega) (by omega)) rfl rfl hdg fun H' e1 e2 e3 => kk H' ?_ e2 e3
  rw [show ev (xG (p, l, ee, R, s, m, args, below, meth, c, Q, G, nL)) 2 (wB v) = narrow .byte (.int (Int32.ofInt v)) from congrArg Value.int (Int32.ofInt_toInt _)]
  exact e1
theorem sd_zastore (hC : CF X cc own Ts) (hdg : decode cc pc = .ok (.bastore, 1)) (hs : Sd X (pc + 1) Γ τ k) : Sd X pc Γ (0 :: 0 :: 103 :: τ) (o_astz k) := by
  intro lo st h cn sn H locs ls hk hH hL hS hl h1 h2
  obtain ⟨v, i, a, st, rfl, v0, v1, v2, hS⟩ := hS.c3
  obtain ⟨hne, hi, hz, hk⟩ := hk
  have hka : Kd h a = some (100 + 3) := (vt_obj (by omega) v2).resolve_left hne
  obtain ⟨q1, q2, q3⟩ := hH.arr hka
  have hp := hH.pos hka
  have kk := fun H' => ast_step (H' := H') (v := v) hs hk hH hL hS hl h1 h2 hka hi (show vt h 3 v from hz)
  obtain ⟨p, l, ee, R, s, m, args, below, meth, c, Q, G, nL⟩ := X
  obtain ⟨hx, hb, hml, hown, hts, hK, hlocks⟩ := hC
  show W p l ee R s m args below meth c H locs cn sn Q (F0 m pc ls (ev G 0 v :: ev G 0 i :: ev G (100 + 3) a :: es G τ st))
  rw [ev_obj G (by omega : 7 ≤ 100 + 3), if_neg (by omega)]
  refine W.zast hx hb q1 ((hK.2.1 (103, .boolean) (by decide)).1 _ _) (fun q => by cases q) (by rw [arrV_size]; exact clampIn hi.1 (by omega) (by omega)) rfl rfl hdg fun H' e1 e2 e3 => kk H' ?_ e2 e3
  rw [show ev (xG (p, l, ee, R, s, m, args, below, meth, c, Q, G, nL)) 3 v = narrow .boolean (.int (Int32.ofInt v)) by rcases hz with rfl | rfl <;> rfl]
  exact e1
end SD5

/-! ===== texts: constants, their length and signs ===== -/
def o_stop : tK := fun _ _ _ _ _ => False
def o_skip (k : tK) : tK := k
/-- the coder of a text -/
def o_sco (k : tK) : tK := fun l st h c n => match st with
  | _ :: r => k l (0 :: r) h c n
  | _ => False
def o_i2c : tK → tK := o_un (fun x => x) (fun x => 0 ≤ x ∧ x ≤ 65535)
/-- an answer of a small type -/
def o_retc (Q : tQ) : tK := fun _ st h _ _ => match st with
  | v :: _ => (0 ≤ v ∧ v ≤ 65535) ∧ Q v h
  | _ => False
def o_retb (Q : tQ) : tK := fun _ st h _ _ => match st with
  | v :: _ => (-128 ≤ v ∧ v ≤ 127) ∧ Q v h
  | _ => False
theorem txL_ok : ∀ i, i < 24 → (txL.getD i []).length < 100 ∧ ∀ c ∈ txL.getD i [], c < 128 := by decide
theorem kept_of {G : GT} {h : tH} {H : Heap} (r : RH G h H) : ∀ a : Nat, a < (gH G).size → ¬ (fun q => gB G ≤ q) a → H[a]? = (gH G)[a]? := fun a _ hn => r.2.2.1 a (Nat.not_le.mp hn)
theorem nar_c {v : Int} (hp : 0 ≤ v ∧ v ≤ 65535) : narrow .char (.int (Int32.ofInt v)) = .int (Int32.ofInt v) := by
  obtain ⟨n, rfl⟩ : ∃ n : Nat, v = (n : Int) := ⟨v.toNat, by omega⟩
  have hn : n < 65536 := by have := hp.2; omega
  show Value.int ((Int32.ofNat n).toUInt32.toUInt16.toUInt32.toInt32) = Value.int (Int32.ofNat n)
  have e3 : (Int32.ofNat n).toUInt32.toUInt16.toUInt32 = (Int32.ofNat n).toUInt32 := by
    apply UInt32.toNat_inj.mp
    rw [UInt16.toNat_toUInt32, UInt32.toNat_toUInt16]
    show n % 2 ^ 32 % 2 ^ 16 = n % 2 ^ 32
    omega
  rw [e3]
  rfl
section SDT
variable {X : CX} {pc : Nat} {Γ Γ' : List (Nat × Nat)} {τ τf : List Nat} {k kt kf : tK} {cc : ByteArray} {own : String} {Ts : List Cond}
theorem sd_stop : Sd X pc Γ τ o_stop := fun _ _ _ _ _ _ _ _ hk => hk.elim
theorem sd_ldcS (hC : CF X cc own Ts) {index : Nat} {tx0 : String} {i : Nat} {v : Int} (hv : v = (i : Int)) (hi : i < 24) (hw : (own, index, tx0, i) ∈ strL) (hdg : decode cc pc = .ok (.ldc index, 2)) (hs : Sd X (pc + 2) Γ (5 :: τ) k) : Sd X pc Γ τ (o_const v k) := by
  subst hv
  refine sd_push (ty := 5) (len := 2) (fun _ => ⟨by omega, by omega⟩) ?_ hs
  intro H locs cn sn ls rest kk
  obtain ⟨p, l, e, R, s, m, args, below, meth, c, Q, G, nL⟩ := X
  obtain ⟨hx, hb, hml, hown, hts, hK, hlk⟩ := hC
  exact va_ldcS hx hb hown (hK.2.2.2.2.2.2.1 _ hw) hdg kk
theorem sd_ldc_wS (hC : CF X cc own Ts) {index : Nat} {tx0 : String} {i : Nat} {v : Int} (hv : v = (i : Int)) (hi : i < 24) (hw : (own, index, tx0, i) ∈ strL) (hdg : decode cc pc = .ok (.ldc_w index, 3)) (hs : Sd X (pc + 3) Γ (5 :: τ) k) : Sd X pc Γ τ (o_const v k) := by
  subst hv
  refine sd_push (ty := 5) (len := 3) (fun _ => ⟨by omega, by omega⟩) ?_ hs
  intro H locs cn sn ls rest kk
  obtain ⟨p, l, e, R, s, m, args, below, meth, c, Q, G, nL⟩ := X
  obtain ⟨hx, hb, hml, hown, hts, hK, hlk⟩ := hC
  have hZ := hK.2.2.2.2.2.2.1 _ hw
  intro T hT X
  obtain ⟨t, a1, b1⟩ := kk T hT X
  exact ⟨t, X.ldcStringW hx hown (text := tx0) (a := gS G i) hZ.1 hZ.2 (g := F0 m pc ls rest) rfl (by rw [hb]; exact hdg) t a1, b1⟩
/-- COMPACT_STRINGS -/
theorem sd_cstr (hC : CF X cc own Ts) {index : Nat} (hw : Cond.fieldLink own index "java/lang/String" "COMPACT_STRINGS" "Z" ∈ Ts) (hdg : decode cc pc = .ok (.getstatic index, 3)) (hs : Sd X (pc + 3) Γ (0 :: τ) k) : Sd X pc Γ τ (o_const 1 k) := by
  intro lo st h cn sn H locs ls hk hH hL hS hl h1 h2
  have kk := hs lo (1 :: st) h cn sn H locs ls hk hH hL ⟨⟨by decide, by decide⟩, hS⟩ hl h1 h2
  have hkp := kept_of hH
  obtain ⟨p, l, e, R, s, m, args, below, meth, c, Q, G, nL⟩ := X
  obtain ⟨hx, hb, hml, hown, hts, hK, hlk⟩ := hC
  obtain ⟨cf, kf, fi, f, a, cell, q1, q2, q3, q4, q5, q6, q7, q8⟩ := hK.2.2.2.2.2.2.2.2.1
  exact W.gets hx hb hown (hts _ hw) q1 q2 q3 q4 (by rw [hkp a (Array.getElem?_eq_some_iff.mp q5).1 q8]; exact q5) (fun e => by rw [e] at q6; cases q6) q7 rfl hdg kk
theorem sd_sco (hC : CF X cc own Ts) {index : Nat} (hw : Cond.fieldLink own index "java/lang/String" "coder" "B" ∈ Ts) (hdg : decode cc pc = .ok (.getfield index, 3)) (hs : Sd X (pc + 3) Γ (0 :: τ) k) : Sd X pc Γ (5 :: τ) (o_sco k) := by
  intro lo st h cn sn H locs ls hk hH hL hS hl h1 h2
  obtain ⟨a, st, rfl, v1, hS⟩ := hS.c1
  have kk := hs lo (0 :: st) h cn sn H locs ls hk hH hL ⟨inI_0, hS⟩ hl h1 h2
  have hkp := kept_of hH
  obtain ⟨p, l, e, R, s, m, args, below, meth, c, Q, G, nL⟩ := X
  obtain ⟨hx, hb, hml, hown, hts, hK, hlk⟩ := hC
  have hv1 : 0 ≤ a ∧ a < 24 := v1
  obtain ⟨cf, kf, fi, f, cell, q1, q2, q3, q4, q5, q6⟩ := ((hK.2.2.2.2.2.2.2.1.1 a.toNat (show a.toNat < 24 by omega)).2.1).kept hkp
  exact W.getf hx hb hown (hts _ hw) q1 q2 q3 q4 q5 rfl rfl hdg kk
theorem sd_sval (hC : CF X cc own Ts) {index : Nat} (hw : Cond.fieldLink own index "java/lang/String" "value" "[B" ∈ Ts) (hdg : decode cc pc = .ok (.getfield index, 3)) (hs : Sd X (pc + 3) Γ (4 :: τ) k) : Sd X pc Γ (5 :: τ) (o_skip k) := by
  intro lo st h cn sn H locs ls hk hH hL hS hl h1 h2
  obtain ⟨a, st, rfl, v1, hS⟩ := hS.c1
  have kk := hs lo (a :: st) h cn sn H locs ls hk hH hL ⟨v1, hS⟩ hl h1 h2
  have hkp := kept_of hH
  obtain ⟨p, l, e, R, s, m, args, below, meth, c, Q, G, nL⟩ := X
  obtain ⟨hx, hb, hml, hown, hts, hK, hlk⟩ := hC
  have hv1 : 0 ≤ a ∧ a < 24 := v1
  obtain ⟨cf, kf, fi, f, cell, q1, q2, q3, q4, q5, q6⟩ := ((hK.2.2.2.2.2.2.2.1.1 a.toNat (show a.toNat < 24 by omega)).2.2.1).kept hkp
  exact W.getf hx hb hown (hts _ hw) q1 q2 q3 q4 q5 rfl rfl hdg kk
theorem sd_tlen (hC : CF X cc own Ts) (hdg : decode cc pc = .ok (.arraylength, 1)) (hs : Sd X (pc + 1) Γ (0 :: τ) k) : Sd X pc Γ (4 :: τ) (o_tlen tx k) := by
  intro lo st h cn sn H locs ls hk hH hL hS hl h1 h2
  obtain ⟨a, st, rfl, v1, hS⟩ := hS.c1
  have hv1 : 0 ≤ a ∧ a < 24 := v1
  have hln := (txL_ok a.toNat (by omega)).1
  have hlen : (tx a).length = (txL.getD a.toNat []).length := List.length_map _
  have kk := hs lo (((tx a).length : Int) :: st) h cn sn H locs ls hk hH hL ⟨⟨by omega, by omega⟩, hS⟩ hl h1 h2
  have hkp := kept_of hH
  obtain ⟨p, l, e, R, s, m, args, below, meth, c, Q, G, nL⟩ := X
  obtain ⟨hx, hb, hml, hown, hts, hK, hlk⟩ := hC
  obtain ⟨cell, q1, q2, q3, q4, q5, q6, q7⟩ := ((hK.2.2.2.2.2.2.2.1.1 a.toNat (show a.toNat < 24 by omega)).2.2.2).kept hkp
  have hl9 : lenT.getD a.toNat 0 = (tx a).length := by
    rw [hlen]
    unfold lenT
    rw [List.getD_eq_getElem?_getD, List.getElem?_map, List.getD_eq_getElem?_getD]
    cases txL[a.toNat]? <;> rfl
  refine W.alen hx hb q1 q2 (n := Int32.ofInt ((tx a).length : Int)) ?_ rfl rfl hdg kk
  rw [q5, hl9]
  rfl
theorem sd_tat (hC : CF X cc own Ts) (hdg : decode cc pc = .ok (.baload, 1)) (hs : Sd X (pc + 1) Γ (0 :: τ) k) : Sd X pc Γ (0 :: 4 :: τ) (o_tat tx k) := by
  intro lo st h cn sn H locs ls hk hH hL hS hl h1 h2
  obtain ⟨i, a, st, rfl, v0, v1, hS⟩ := hS.c2
  obtain ⟨hi, hk⟩ := hk
  have hv1 : 0 ≤ a ∧ a < 24 := v1
  obtain ⟨hln, hch⟩ := txL_ok a.toNat (by omega)
  have hlen : (tx a).length = (txL.getD a.toNat []).length := List.length_map _
  have hc9 : ∃ c : Nat, c < 128 ∧ (txL.getD a.toNat [])[i.toNat]? = some c := by
    have hlt : i.toNat < (txL.getD a.toNat []).length := by omega
    exact ⟨_, hch _ (List.getElem_mem hlt), List.getElem?_eq_getElem hlt⟩
  obtain ⟨c9, hc1, hc2⟩ := hc9
  have hg : (tx a).getD i.toNat 0 = (c9 : Int) := by
    unfold tx
    rw [List.getD_eq_getElem?_getD, List.getElem?_map, hc2]
    rfl
  have kk := hs lo ((tx a).getD i.toNat 0 :: st) h cn sn H locs ls hk hH hL ⟨by rw [hg]; exact ⟨by omega, by omega⟩, hS⟩ hl h1 h2
  have hkp := kept_of hH
  obtain ⟨p, l, e, R, s, m, args, below, meth, c, Q, G, nL⟩ := X
  obtain ⟨hx, hb, hml, hown, hts, hK, hlk⟩ := hC
  obtain ⟨cell, q1, q2, q3, q4, q5, q6, q7⟩ := ((hK.2.2.2.2.2.2.2.1.1 a.toNat (show a.toNat < 24 by omega)).2.2.2).kept hkp
  have hl9 : lenT.getD a.toNat 0 = (tx a).length := by
    rw [hlen]
    unfold lenT
    rw [List.getD_eq_getElem?_getD, List.getElem?_map, List.getD_eq_getElem?_getD]
    cases txL[a.toNat]? <;> rfl
  rw [hl9] at q4 q6
  have hcl := clampI hi.1 (by omega : i ≤ 2147483647)
  have hv9 : (Value.int ((bytT.getD a.toNat []).getD i.toNat 0)) = ev G 0 ((tx a).getD i.toNat 0) := by
    rw [hg]
    show Value.int _ = Value.int (Int32.ofInt (c9 : Int))
    congr 1
    unfold bytT
    have e1 : (txL.map fun l => l.map nI).getD a.toNat [] = (txL.getD a.toNat []).map nI := by
      rw [List.getD_eq_getElem?_getD, List.getElem?_map, List.getD_eq_getElem?_getD]
      cases txL[a.toNat]? <;> rfl
    rw [e1, List.getD_eq_getElem?_getD, List.getElem?_map, hc2]
    rfl
  refine W.bald hx hb q1 q2 q3 (v := ev G 0 ((tx a).getD i.toNat 0)) ?_ ?_ rfl rfl hdg kk
  · rw [hcl, of_0, of_lt v0 inI_0]
    omega
  · rw [hcl, ← hv9]
    exact q6 i.toNat (by omega)
theorem sd_i2c (hC : CF X cc own Ts) (hdg : decode cc pc = .ok (.i2c, 1)) (hs : Sd X (pc + 1) Γ (0 :: τ) k) : Sd X pc Γ (0 :: τ) (o_i2c k) := by
  refine sd_un (t := 0) (r := 0) (fun h x v1 hp => v1) ?_ hs
  intro H locs cn sn ls rest h x v1 hp kk
  obtain ⟨p, l, e, R, s, m, args, below, meth, c, Q, G, nL⟩ := X
  obtain ⟨hx, hb, -⟩ := hC
  refine lv_i2c hx hb hdg ?_ kk
  obtain ⟨n, rfl⟩ : ∃ n : Nat, x = (n : Int) := ⟨x.toNat, by omega⟩
  have hn : n < 65536 := by have := hp.2; omega
  have e1 : Int32.ofInt (n : Int) = Int32.ofNat n := rfl
  rw [e1]
  have e2 : ((Int32.ofNat n).toUInt32 % 65536).toNat = n := by
    rw [UInt32.toNat_mod]
    show n % 2 ^ 32 % 65536 = n
    omega
  have e3 : (Int32.ofNat n).toUInt32 % 65536 = (Int32.ofNat n).toUInt32 := by
    apply UInt32.toNat_inj.mp
    rw [e2]
    show n = n % 2 ^ 32
    omega
  rw [e3]
  rfl
theorem sd_creturn (hC : CF X cc own Ts) {Q : tQ} (hT : RT X (some .char) (some 0) Q) (hdg : decode cc pc = .ok (.ireturn, 1)) : Sd X pc Γ [0] (o_retc Q) := by
  intro lo st h cn sn H locs ls hk hH hL hS hl h1 h2
  obtain ⟨v, st, rfl, v1, hS⟩ := hS.c1
  obtain ⟨hz, hk⟩ := hk
  obtain ⟨p, l, e, R, s, m, args, below, meth, c, Qf, G, nL⟩ := X
  obtain ⟨hx, hb, hml, hown, hts, hK, hlocks⟩ := hC
  obtain ⟨rfl, hr⟩ := hT
  refine W.widen (k := R.cells) (n := R.slots) h1 h2 ?_
  cases st with
  | cons _ _ => exact hS.elim
  | nil => exact W.zret (v := Int32.ofInt v) (ty := .char) hx hb hr (nar_c hz) (fun t ht hW => ⟨v, h, rfl, hk, by rw [ht]; exact hH, fun ty e => (by cases e; exact v1), hL.2.2.2⟩) hl hdg hlocks
theorem sd_breturn (hC : CF X cc own Ts) {Q : tQ} (hT : RT X (some .byte) (some 0) Q) (hdg : decode cc pc = .ok (.ireturn, 1)) : Sd X pc Γ [0] (o_retb Q) := by
  intro lo st h cn sn H locs ls hk hH hL hS hl h1 h2
  obtain ⟨v, st, rfl, v1, hS⟩ := hS.c1
  obtain ⟨hz, hk⟩ := hk
  obtain ⟨p, l, e, R, s, m, args, below, meth, c, Qf, G, nL⟩ := X
  obtain ⟨hx, hb, hml, hown, hts, hK, hlocks⟩ := hC
  obtain ⟨rfl, hr⟩ := hT
  refine W.widen (k := R.cells) (n := R.slots) h1 h2 ?_
  cases st with
  | cons _ _ => exact hS.elim
  | nil => exact W.zret (v := Int32.ofInt v) (ty := .byte) hx hb hr (congrArg Value.int (wB_id hz)) (fun t ht hW => ⟨v, h, rfl, hk, by rw [ht]; exact hH, fun ty e => (by cases e; exact v1), hL.2.2.2⟩) hl hdg hlocks
/-- a call on a text -/
theorem sd_invT (hC : CF X cc own Ts) {y : MethodName} {cd : ByteArray} {mx index t na : Nat} {ret : Option FieldType} {rm : Room} {τr : List Nat} {f : tM} (hg : Ts.all goodWord = true) (hM : Mt X.2.1 y (Cond.code y cd mx ret :: Ts) rm (5 :: τr) (some t) f) (hτ : τf = (5 :: τr).reverse ++ τ) (hna : na = τr.length + 1) (hmc : rm.cells = 0) (hms : rm.slots = 0) (hqy : y.cls = "java/lang/String") (hw1 : Cond.methodLink own index y ∈ Ts) (hw2 : Cond.instanceMethod y ∈ Ts) (hw3 : Cond.selects "java/lang/String" y y ∈ Ts) (hw4 : Cond.initialized "java/lang/String" ∈ Ts) (hw5 : Cond.code y cd mx ret ∈ Ts) (hd : y.cls ≠ "java/lang/invoke/MethodHandle" ∧ y.cls ≠ "java/lang/invoke/VarHandle" ∧ (parseMethodDescriptor y.desc).map (fun d => d.parameters.length) = some τr.length) (hR : rm.frames + 1 ≤ (xR X).frames ∧ 8 + (mx + 11) + rm.locals ≤ (xR X).locals) (hwd : wd τ ≤ 8) (hdg : decode cc pc = .ok (.invokevirtual index, 3)) (hs : Sd X (pc + 3) Γ (t :: τ) k) : Sd X pc Γ τf (o_call na f 0 0 k) := by
  subst hτ; subst hna
  intro lo st h cn sn H locs ls hk hH hL hS hl h1 h2
  refine call_core (τs := 5 :: τr) (k' := fun v r h' => k lo (v :: r) h' cn sn) hM ?_ hk hS hl fun v h' H' locs' a1 a2 a3 a4 a5 a6 => by
    rw [hmc, hms]
    exact hs lo _ h' _ _ H' locs' ls a1 a2 (hL.mono a4) ⟨a3 t rfl, a5⟩ a6 h1 h2
  intro Q hmet
  obtain ⟨a5, a6, a7⟩ := es_argsS (xG X) hS
  have hsp := hS.split
  rw [List.length_reverse] at hsp
  have hra := hsp.1.rev
  rw [List.reverse_reverse] at hra
  have hls := hL.2.1.1
  have hkp := kept_of hH
  cases hxs : (st.take (5 :: τr).length).reverse with
  | nil => rw [hxs] at hra; exact hra.elim
  | cons b xr =>
    rw [hxs] at hra a5 a6 hmet
    have hv1 : 0 ≤ b ∧ b < 24 := hra.1
    obtain ⟨p, l, e, R, s, m, args, below, meth, c, Qf, G, nL⟩ := X
    obtain ⟨hx, hb, hml, hown, hts, hK, hlocks⟩ := hC
    dsimp only [xG, xm, xR, xn] at a5 hmet hH hR hls h1 h2 ⊢
    obtain ⟨cell, q1, q2, q3, -⟩ := ((hK.2.2.2.2.2.2.2.1.1 b.toNat (show b.toNat < 24 by omega)).1).kept hkp
    have e1 : es G (5 :: τr) (b :: xr) = .ref (gS G b.toNat) :: es G τr xr := rfl
    rw [a5, e1, List.reverse_cons, List.append_assoc]
    refine va_runV (As := es G τr xr) (C := "java/lang/String") ⟨hx, hb, hml, hown, hts⟩ hmet (cwV τr.length hts ?_ rfl rfl rfl ⟨hqy, hd⟩ hR) ⟨mP_blind _ _ _ _, ⟨cell, q1, q2, q3⟩, fun U hU hW => ⟨by rw [e1], by rw [hU]; exact hH, hK.warm hW⟩⟩ rfl (by have a6 : (es G (5 :: τr) (b :: xr)).length = (5 :: τr).length := a6; rw [e1] at a6; simpa using a6) hls rfl (lv_room (by rw [es_wd G τ _ (RS.len a7)]; exact hwd)) hdg (by rw [hmc, hms]; exact ⟨h1, h2⟩)
    refine goodW hg hw5 (ws0 := [.methodLink own index y, .instanceMethod y, .selects "java/lang/String" y y, .initialized "java/lang/String"]) ?_
    intro w hw
    simp only [List.mem_cons, List.not_mem_nil, or_false] at hw
    rcases hw with rfl | rfl | rfl | rfl
    · exact hw1
    · exact hw2
    · exact hw3
    · exact hw4
end SDT

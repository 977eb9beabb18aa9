/-! ===== soundness of calls and returns; a method's contract out of its walk ===== -/
theorem RS.split {h : tH} : ∀ {τ1 τ2 : List Nat} {st : List Int}, RS h (τ1 ++ τ2) st → RS h τ1 (st.take τ1.length) ∧ RS h τ2 (st.drop τ1.length)
  | [], _, _, r => ⟨trivial, r⟩
  | t :: τ1, τ2, [], r => r.elim
  | t :: τ1, τ2, x :: st, r => ⟨⟨r.1, (RS.split (τ1 := τ1) r.2).1⟩, (RS.split (τ1 := τ1) r.2).2⟩
theorem RS.len {h : tH} : ∀ {τ : List Nat} {st : List Int}, RS h τ st → st.length = τ.length
  | [], [], _ => rfl
  | t :: τ, x :: st, r => by rw [List.length_cons, List.length_cons, RS.len r.2]
  | [], _ :: _, r => r.elim
  | _ :: _, [], r => r.elim
theorem es_app (G : GT) : ∀ (τ1 : List Nat) (s1 : List Int) (τ2 : List Nat) (s2 : List Int), s1.length = τ1.length → es G (τ1 ++ τ2) (s1 ++ s2) = es G τ1 s1 ++ es G τ2 s2
  | [], [], _, _, _ => rfl
  | t :: τ1, x :: s1, τ2, s2, h => by
    show ev G t x :: es G (τ1 ++ τ2) (s1 ++ s2) = ev G t x :: (es G τ1 s1 ++ es G τ2 s2)
    rw [es_app G τ1 s1 τ2 s2 (by simpa using h)]
  | [], _ :: _, _, _, h => by cases h
  | _ :: _, [], _, _, h => by cases h
theorem RS.app {h : tH} : ∀ {τ1 τ2 : List Nat} {s1 s2 : List Int}, RS h τ1 s1 → RS h τ2 s2 → RS h (τ1 ++ τ2) (s1 ++ s2)
  | [], _, [], _, _, r2 => r2
  | t :: τ1, τ2, x :: s1, s2, r1, r2 => ⟨r1.1, RS.app r1.2 r2⟩
  | [], _, _ :: _, _, r1, _ => r1.elim
  | _ :: _, _, [], _, r1, _ => r1.elim
theorem RS.rev {h : tH} : ∀ {τ : List Nat} {st : List Int}, RS h τ st → RS h τ.reverse st.reverse
  | [], [], _ => trivial
  | t :: τ, x :: st, r => by
    rw [List.reverse_cons, List.reverse_cons]
    exact RS.app (RS.rev r.2) ⟨r.1, trivial⟩
  | [], _ :: _, r => r.elim
  | _ :: _, [], r => r.elim
theorem es_rev (G : GT) : ∀ (τ : List Nat) (st : List Int), st.length = τ.length → es G τ.reverse st.reverse = (es G τ st).reverse
  | [], [], _ => rfl
  | t :: τ, x :: st, h => by
    have h' : st.length = τ.length := by simpa using h
    rw [List.reverse_cons, List.reverse_cons, es_app G _ _ _ _ (by simp [h']), es_rev G τ st h']
    show _ = (ev G t x :: es G τ st).reverse
    rw [List.reverse_cons]
    rfl
  | [], _ :: _, h => by cases h
  | _ :: _, [], h => by cases h
/-- the words on the stack -/
def wd (τ : List Nat) : Nat := (τ.map fun t => if t = 1 then 2 else 1).sum
theorem es_wd (G : GT) : ∀ (τ : List Nat) (st : List Int), st.length = τ.length → ((es G τ st).map fun v => v.category).sum = wd τ
  | [], [], _ => rfl
  | t :: τ, x :: st, h => by
    have h' : st.length = τ.length := by simpa using h
    show ((ev G t x :: es G τ st).map fun v => v.category).sum = _
    rw [List.map_cons, List.sum_cons, ev_cat, es_wd G τ st h']
    rfl
  | [], _ :: _, h => by cases h
  | _ :: _, [], h => by cases h
def o_inv (na : Nat) (f : tM) (mc ms : Nat) (k : tK) : tK := fun l st h c n => st.getD (na - 1) 0 ≠ -1 ∧ f (st.take na).reverse h (fun v h' => k l (v :: st.drop na) h' (c + mc) (n + ms))
def o_invv (na : Nat) (f : tM) (mc ms : Nat) (k : tK) : tK := fun l st h c n => st.getD (na - 1) 0 ≠ -1 ∧ f (st.take na).reverse h (fun _ h' => k l (st.drop na) h' (c + mc) (n + ms))
/-- a method's end -/
def mQ (G : GT) (h : tH) (rt : Option Nat) (Q : tQ) : Array Value → State → Outcome → State → Prop := fun _ _ oc t => ∃ (v : Int) (h' : tH), oc = .returned (rt.map fun ty => ev G ty v) ∧ Q v h' ∧ RH G h' t.heap ∧ (∀ ty, rt = some ty → vt h' ty v) ∧ hLe h h'
def mP (G : GT) (h : tH) (τs : List Nat) (xs : List Int) : Array Value → State → Prop := va_Pc (es G τs xs) (fun U => RH G h U.heap ∧ KU G U)
/-- a method's contract: its T function says what it does -/
def Mt (l : Launch) (y : MethodName) (ws : List Cond) (rm : Room) (τs : List Nat) (rt : Option Nat) (f : tM) : Prop := ∀ (G : GT) (xs : List Int) (h : tH) (Q : tQ), f xs h Q → RS h τs xs → Met l y ws rm (mP G h τs xs) (mQ G h rt Q) rm.cells rm.slots (fun q => gB G ≤ q)
theorem mP_blind (G : GT) (h : tH) (τs : List Nat) (xs : List Int) : FrameBlind (mP G h τs xs) := fun _ U _ _ q => ⟨q.1, q.2.1, KU.same (u := U) rfl q.2.2⟩
section SD7
variable {X : CX} {pc : Nat} {Γ Γ' : List (Nat × Nat)} {τ : List Nat} {k kt kf : tK} {cc : ByteArray} {own : String} {Ts : List Cond}
/-- behind a call that ran -/
theorem call_fin {p : Program} {l : Launch} {e : Env} {R : Room} {s : State} {m : MethodId} {args : Array Value} {below : List Frame} {meth : Method} {c : Code} {Qf : State → Prop} {G : GT} {H : Heap} {locs : List Loc} {cn sn mc ms : Nat} {ls : Array Slot} {st0 rest : List Value} {arr : Array Value} {h : tH} {rt : Option Nat} {Q : tQ}
    (hr : va_Run p l e R s m args below meth c H locs cn sn mc ms (F0 m pc ls st0) rest (mQ G h rt Q arr) (fun q => gB G ≤ q)) (hl : ∀ q ∈ locs, gB G ≤ q.base)
    (kk : ∀ (v : Int) (h' : tH) (H' : Heap) (locs' : List Loc), Q v h' → RH G h' H' → (∀ ty, rt = some ty → vt h' ty v) → hLe h h' → (∀ q ∈ locs', gB G ≤ q.base) → W p l e R s m args below meth c H' locs' (cn + mc) (sn + ms) Qf (F0 m (pc + 3) ls ((rt.map fun ty => ev G ty v).toList ++ rest))) : W p l e R s m args below meth c H locs cn sn Qf (F0 m pc ls st0) := by
  intro T hT X
  obtain ⟨v, st₀, t, T', L, h0, X', hL, e1, e2, ⟨v0, h', hv, hq, hR, hvt, hle⟩, st⟩ := hr T hT X
  cases hv
  obtain ⟨t2, a1, b1⟩ := kk v0 h' T'.heap (locs ++ L) hq (by rw [e1]; exact hR) hvt hle (fun q hq => (List.mem_append.mp hq).elim (hl q) (hL q)) T' rfl X'
  exact ⟨t2, st t2 a1, b1⟩
/-- the run of a call, whatever its kind: given by the kit's row -/
theorem call_core {y : MethodName} {ws : List Cond} {rm : Room} {τs : List Nat} {rt : Option Nat} {f : tM} {k' : Int → List Int → tH → Prop} (hM : Mt X.2.1 y ws rm τs rt f) {st : List Int} {h : tH} {cn sn : Nat} {H : Heap} {locs : List Loc} {ls : Array Slot}
    (row : ∀ (Q : tQ), Met X.2.1 y ws rm (mP (xG X) h τs (st.take τs.length).reverse) (mQ (xG X) h rt Q) rm.cells rm.slots (fun q => gB (xG X) ≤ q) → va_Run X.1 X.2.1 X.2.2.1 X.2.2.2.1 X.2.2.2.2.1 X.2.2.2.2.2.1 X.2.2.2.2.2.2.1 X.2.2.2.2.2.2.2.1 X.2.2.2.2.2.2.2.2.1 X.2.2.2.2.2.2.2.2.2.1 H locs cn sn rm.cells rm.slots (F0 (xm X) pc ls (es (xG X) (τs.reverse ++ τ) st)) (es (xG X) τ (st.drop τs.length)) (mQ (xG X) h rt Q (es (xG X) τs (st.take τs.length).reverse).toArray) (fun q => gB (xG X) ≤ q))
    (hk : f (st.take τs.length).reverse h (fun v h' => k' v (st.drop τs.length) h')) (hS : RS h (τs.reverse ++ τ) st) (hl : ∀ q ∈ locs, gB (xG X) ≤ q.base)
    (kk : ∀ (v : Int) (h' : tH) (H' : Heap) (locs' : List Loc), k' v (st.drop τs.length) h' → RH (xG X) h' H' → (∀ ty, rt = some ty → vt h' ty v) → hLe h h' → RS h' τ (st.drop τs.length) → (∀ q ∈ locs', gB (xG X) ≤ q.base) → WX X H' locs' (cn + rm.cells) (sn + rm.slots) (F0 (xm X) (pc + 3) ls ((rt.map fun ty => ev (xG X) ty v).toList ++ es (xG X) τ (st.drop τs.length)))) : WX X H locs cn sn (F0 (xm X) pc ls (es (xG X) (τs.reverse ++ τ) st)) := by
  have hsp := hS.split
  rw [List.length_reverse] at hsp
  have hra : RS h τs (st.take τs.length).reverse := by
    have := hsp.1.rev
    rw [List.reverse_reverse] at this
    exact this
  have hmet := hM (xG X) _ h _ hk hra
  have hrun := row _ hmet
  obtain ⟨p, l, e, R, s, m, args, below, meth, c, Q, G, nL⟩ := X
  exact call_fin hrun hl fun v h' H' locs' a1 a2 a3 a4 a5 => kk v h' H' locs' a1 a2 a3 a4 (hsp.2.mono a4) a5
/-- what every call of ours needs of the words: WALL is behind each method's own code -/
theorem goodW {y : MethodName} {cd : ByteArray} {mx : Nat} {ret : Option FieldType} {W0 : List Cond} (hg : W0.all goodWord = true) (hc : Cond.code y cd mx ret ∈ W0) {ws0 : List Cond} (h0 : ∀ w ∈ ws0, w ∈ W0) : GoodIn W0 (ws0 ++ (Cond.code y cd mx ret :: W0)) := by
  intro w hw
  have hin : w ∈ W0 := by
    rcases List.mem_append.mp hw with z | z
    · exact h0 w z
    · rcases List.mem_cons.mp z with rfl | z
      · exact hc
      · exact z
  exact ⟨hin, good_of_word (List.all_eq_true.mp hg w hin)⟩
theorem es_args (G : GT) {t : Nat} {τr τ : List Nat} {h : tH} {st : List Int} (hS : RS h ((t :: τr).reverse ++ τ) st) (h7 : 7 ≤ t) (hne : st.getD τr.length 0 ≠ -1) (hpos : ∀ a κ, Kd h a = some κ → 0 ≤ a) :
    ∃ (b : Int) (xr : List Int), (st.take (t :: τr).length).reverse = b :: xr ∧ Kd h b = some t ∧ 0 ≤ b ∧ es G (t :: τr) (b :: xr) = .ref b.toNat :: es G τr xr ∧ es G ((t :: τr).reverse ++ τ) st = (es G τr xr).reverse ++ .ref b.toNat :: es G τ (st.drop (t :: τr).length) ∧ (es G τr xr).length = τr.length ∧ RS h τ (st.drop (t :: τr).length) := by
  have hsp := hS.split
  rw [List.length_reverse] at hsp
  have hra := hsp.1.rev
  rw [List.reverse_reverse] at hra
  cases hxs : (st.take (t :: τr).length).reverse with
  | nil => rw [hxs] at hra; exact hra.elim
  | cons b xr =>
    rw [hxs] at hra
    have hst : st = (b :: xr).reverse ++ st.drop (t :: τr).length := by
      rw [← hxs, List.reverse_reverse, List.take_append_drop]
    have hlr := RS.len hra.2
    have hb : st.getD τr.length 0 = b := by
      rw [hst, List.reverse_cons, List.append_assoc, List.getD_eq_getElem?_getD, List.getElem?_append_right (by simp [hlr])]
      simp [hlr]
    rw [hb] at hne
    have hkb : Kd h b = some t := (vt_obj h7 hra.1).resolve_left hne
    have hp := hpos b t hkb
    have e1 : ev G t b = .ref b.toNat := by rw [ev_obj G h7, if_neg (by omega)]
    refine ⟨b, xr, rfl, hkb, hp, by show ev G t b :: _ = _; rw [e1], ?_, ?_, hsp.2⟩
    · have hl1 : (b :: xr).reverse.length = (t :: τr).reverse.length := by simp [hlr]
      have e2 : es G ((t :: τr).reverse ++ τ) ((b :: xr).reverse ++ st.drop (t :: τr).length) = es G (t :: τr).reverse (b :: xr).reverse ++ es G τ (st.drop (t :: τr).length) := es_app G _ _ _ _ hl1
      rw [← hst] at e2
      rw [e2, es_rev G _ _ (by simp [hlr])]
      show (ev G t b :: es G τr xr).reverse ++ _ = _
      rw [e1, List.reverse_cons, List.append_assoc]
      rfl
    · have : ∀ (τ : List Nat) (st : List Int), st.length = τ.length → (es G τ st).length = τ.length := by
        intro τ
        induction τ with
        | nil => intro st _; cases st <;> rfl
        | cons t τ ih =>
          intro st hh
          cases st with
          | nil => cases hh
          | cons x st => show (ev G t x :: es G τ st).length = _; rw [List.length_cons, ih st (by simpa using hh), List.length_cons]
      exact this τr xr hlr
/-- invokevirtual, of a class of ours -/
theorem sd_inv_core (hC : CF X cc own Ts) {y : MethodName} {cd : ByteArray} {mx index ci : Nat} {ret : Option FieldType} {rm : Room} {τr : List Nat} {rt : Option Nat} {f : tM} {q : vw_C} (hg : Ts.all goodWord = true) (hM : Mt X.2.1 y (Cond.code y cd mx ret :: Ts) rm ((10 + ci) :: τr) rt f) (hcl : clsA[ci]? = some q) (hqy : y.cls = q.1) (hw1 : Cond.methodLink own index y ∈ Ts) (hw2 : Cond.instanceMethod y ∈ Ts) (hw3 : Cond.selects q.1 y y ∈ Ts) (hw4 : Cond.initialized q.1 ∈ Ts) (hw5 : Cond.code y cd mx ret ∈ Ts) (hd : y.cls ≠ "java/lang/invoke/MethodHandle" ∧ y.cls ≠ "java/lang/invoke/VarHandle" ∧ (parseMethodDescriptor y.desc).map (fun d => d.parameters.length) = some τr.length) (hR : rm.frames + 1 ≤ (xR X).frames ∧ 8 + (mx + 11) + rm.locals ≤ (xR X).locals) (hwd : wd τ ≤ 8) (hdg : decode cc pc = .ok (.invokevirtual index, 3))
    {k' : Int → List Int → tH → Prop} {st : List Int} {h : tH} {cn sn : Nat} {H : Heap} {locs : List Loc} {ls : Array Slot} (hne : st.getD τr.length 0 ≠ -1) (hk : f (st.take ((10 + ci) :: τr).length).reverse h (fun v h' => k' v (st.drop ((10 + ci) :: τr).length) h')) (hH : RH (xG X) h H) (hls : ls.size = xn X) (hS : RS h (((10 + ci) :: τr).reverse ++ τ) st) (hl : ∀ q ∈ locs, gB (xG X) ≤ q.base) (hf : cn + rm.cells ≤ (xR X).cells ∧ sn + rm.slots ≤ (xR X).slots)
    (kk : ∀ (v : Int) (h' : tH) (H' : Heap) (locs' : List Loc), k' v (st.drop ((10 + ci) :: τr).length) h' → RH (xG X) h' H' → (∀ ty, rt = some ty → vt h' ty v) → hLe h h' → RS h' τ (st.drop ((10 + ci) :: τr).length) → (∀ q ∈ locs', gB (xG X) ≤ q.base) → WX X H' locs' (cn + rm.cells) (sn + rm.slots) (F0 (xm X) (pc + 3) ls ((rt.map fun ty => ev (xG X) ty v).toList ++ es (xG X) τ (st.drop ((10 + ci) :: τr).length)))) : WX X H locs cn sn (F0 (xm X) pc ls (es (xG X) (((10 + ci) :: τr).reverse ++ τ) st)) := by
  refine call_core hM ?_ hk hS hl kk
  intro Q hmet
  obtain ⟨b, xr, a1, a2, a3, a4, a5, a6, a7⟩ := es_args (xG X) hS (by omega) hne (fun a κ z => hH.pos z)
  have hci : ci < 11 := (List.getElem?_eq_some_iff.mp hcl).1
  obtain ⟨⟨cell, q1, q2, q3, q4⟩, -⟩ := hH.obj hci a2 hcl
  obtain ⟨p, l, e, R, s, m, args, below, meth, c, Qf, G, nL⟩ := X
  obtain ⟨hx, hb, hml, hown, hts, hK, hlocks⟩ := hC
  dsimp only [xG, xm, xR, xn] at a4 a5 hmet hH hf hR hls ⊢
  rw [a1] at hmet ⊢
  rw [a4, a5]
  refine va_runV (As := es G τr xr) ⟨hx, hb, hml, hown, hts⟩ hmet (cwV (C := q.1) τr.length hts ?_ rfl rfl rfl ⟨hqy, hd⟩ hR) ⟨mP_blind _ _ _ _, ⟨cell, q1, by rw [q3]; rfl, by rw [q2]; exact (hK.1.1 ci q hcl).2.1⟩, fun U hU hW => ⟨by rw [a4], by rw [hU]; exact hH, hK.warm hW⟩⟩ rfl a6 hls rfl (lv_room (by rw [es_wd G τ _ (RS.len a7)]; exact hwd)) hdg hf
  refine goodW hg hw5 (ws0 := [.methodLink own index y, .instanceMethod y, .selects q.1 y y, .initialized q.1]) ?_
  intro w hw
  simp only [List.mem_cons, List.not_mem_nil, or_false] at hw
  rcases hw with rfl | rfl | rfl | rfl
  · exact hw1
  · exact hw2
  · exact hw3
  · exact hw4
end SD7

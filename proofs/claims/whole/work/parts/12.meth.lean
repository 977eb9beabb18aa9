/-! ===== calls of every kind, returns, a method's contract ===== -/
section SD8
variable {X : CX} {pc : Nat} {Γ Γ' : List (Nat × Nat)} {τ τf : List Nat} {k kt kf : tK} {cc : ByteArray} {own : String} {Ts : List Cond}
theorem sd_inv (hC : CF X cc own Ts) {y : MethodName} {cd : ByteArray} {mx index ci t na mc ms MC MS : Nat} {ret : Option FieldType} {rm : Room} {τr : List Nat} {f : tM} {q : vw_C} (hg : Ts.all goodWord = true) (hM : Mt X.2.1 y (Cond.code y cd mx ret :: Ts) rm ((10 + ci) :: τr) (some t) f) (hτ : τf = ((10 + ci) :: τr).reverse ++ τ) (hna : na = τr.length + 1) (hmc : rm.cells = mc) (hms : rm.slots = ms) (hRc : (xR X).cells = MC) (hRs : (xR X).slots = MS) (hcl : clsA[ci]? = some q) (hqy : y.cls = q.1) (hw1 : Cond.methodLink own index y ∈ Ts) (hw2 : Cond.instanceMethod y ∈ Ts) (hw3 : Cond.selects q.1 y y ∈ Ts) (hw4 : Cond.initialized q.1 ∈ Ts) (hw5 : Cond.code y cd mx ret ∈ Ts) (hd : y.cls ≠ "java/lang/invoke/MethodHandle" ∧ y.cls ≠ "java/lang/invoke/VarHandle" ∧ (parseMethodDescriptor y.desc).map (fun d => d.parameters.length) = some τr.length) (hR : rm.frames + 1 ≤ (xR X).frames ∧ 8 + (mx + 11) + rm.locals ≤ (xR X).locals) (hwd : wd τ ≤ 8) (hdg : decode cc pc = .ok (.invokevirtual index, 3)) (hs : Sd X (pc + 3) Γ (t :: τ) k) : Sd X pc Γ τf (o_room mc ms MC MS (o_inv na f mc ms k)) := by
  subst hτ; subst hna; subst hmc; subst hms; subst hRc; subst hRs
  intro lo st h cn sn H locs ls hk hH hL hS hl h1 h2
  obtain ⟨hf, hne, hk⟩ := hk
  exact sd_inv_core hC hg hM hcl hqy hw1 hw2 hw3 hw4 hw5 hd hR hwd hdg (k' := fun v r h' => k lo (v :: r) h' (cn + rm.cells) (sn + rm.slots)) hne hk hH hL.2.1.1 hS hl hf fun v h' H' locs' a1 a2 a3 a4 a5 a6 => hs lo _ h' _ _ H' locs' ls a1 a2 (hL.mono a4) ⟨a3 t rfl, a5⟩ a6 hf.1 hf.2
theorem sd_invv (hC : CF X cc own Ts) {y : MethodName} {cd : ByteArray} {mx index ci na mc ms MC MS : Nat} {ret : Option FieldType} {rm : Room} {τr : List Nat} {f : tM} {q : vw_C} (hg : Ts.all goodWord = true) (hM : Mt X.2.1 y (Cond.code y cd mx ret :: Ts) rm ((10 + ci) :: τr) none f) (hτ : τf = ((10 + ci) :: τr).reverse ++ τ) (hna : na = τr.length + 1) (hmc : rm.cells = mc) (hms : rm.slots = ms) (hRc : (xR X).cells = MC) (hRs : (xR X).slots = MS) (hcl : clsA[ci]? = some q) (hqy : y.cls = q.1) (hw1 : Cond.methodLink own index y ∈ Ts) (hw2 : Cond.instanceMethod y ∈ Ts) (hw3 : Cond.selects q.1 y y ∈ Ts) (hw4 : Cond.initialized q.1 ∈ Ts) (hw5 : Cond.code y cd mx ret ∈ Ts) (hd : y.cls ≠ "java/lang/invoke/MethodHandle" ∧ y.cls ≠ "java/lang/invoke/VarHandle" ∧ (parseMethodDescriptor y.desc).map (fun d => d.parameters.length) = some τr.length) (hR : rm.frames + 1 ≤ (xR X).frames ∧ 8 + (mx + 11) + rm.locals ≤ (xR X).locals) (hwd : wd τ ≤ 8) (hdg : decode cc pc = .ok (.invokevirtual index, 3)) (hs : Sd X (pc + 3) Γ τ k) : Sd X pc Γ τf (o_room mc ms MC MS (o_invv na f mc ms k)) := by
  subst hτ; subst hna; subst hmc; subst hms; subst hRc; subst hRs
  intro lo st h cn sn H locs ls hk hH hL hS hl h1 h2
  obtain ⟨hf, hne, hk⟩ := hk
  exact sd_inv_core hC hg hM hcl hqy hw1 hw2 hw3 hw4 hw5 hd hR hwd hdg (k' := fun _ r h' => k lo r h' (cn + rm.cells) (sn + rm.slots)) hne hk hH hL.2.1.1 hS hl hf fun v h' H' locs' a1 a2 a3 a4 a5 a6 => hs lo _ h' _ _ H' locs' ls a1 a2 (hL.mono a4) a5 a6 hf.1 hf.2
/-- a constructor's call -/
theorem sd_invi (hC : CF X cc own Ts) {y : MethodName} {cd : ByteArray} {mx index ci na mc ms MC MS : Nat} {rm : Room} {τr : List Nat} {f : tM} (hg : Ts.all goodWord = true) (hM : Mt X.2.1 y (Cond.code y cd mx none :: Ts) rm ((10 + ci) :: τr) none f) (hτ : τf = ((10 + ci) :: τr).reverse ++ τ) (hna : na = τr.length + 1) (hmc : rm.cells = mc) (hms : rm.slots = ms) (hRc : (xR X).cells = MC) (hRs : (xR X).slots = MS) (hy1 : y.name = "<init>") (hw1 : Cond.methodLink own index y ∈ Ts) (hw2 : Cond.instanceMethod y ∈ Ts) (hw4 : Cond.initialized y.cls ∈ Ts) (hw5 : Cond.code y cd mx none ∈ Ts) (hd : y.cls ≠ "java/lang/invoke/MethodHandle" ∧ y.cls ≠ "java/lang/invoke/VarHandle" ∧ (parseMethodDescriptor y.desc).map (fun d => d.parameters.length) = some τr.length) (hR : rm.frames + 1 ≤ (xR X).frames ∧ 8 + (mx + 11) + rm.locals ≤ (xR X).locals) (hwd : wd τ ≤ 8) (hdg : decode cc pc = .ok (.invokespecial index, 3)) (hs : Sd X (pc + 3) Γ τ k) : Sd X pc Γ τf (o_room mc ms MC MS (o_invv na f mc ms k)) := by
  subst hτ; subst hna; subst hmc; subst hms; subst hRc; subst hRs
  intro lo st h cn sn H locs ls hk hH hL hS hl h1 h2
  obtain ⟨hf, hne, hk⟩ := hk
  refine call_core (k' := fun _ r h' => k lo r h' (cn + rm.cells) (sn + rm.slots)) hM ?_ hk hS hl fun v h' H' locs' a1 a2 a3 a4 a5 a6 => hs lo _ h' _ _ H' locs' ls a1 a2 (hL.mono a4) a5 a6 hf.1 hf.2
  intro Q hmet
  obtain ⟨b, xr, a1, a2, a3, a4, a5, a6, a7⟩ := es_args (xG X) hS (by omega) hne (fun a κ z => hH.pos z)
  have hls := hL.2.1.1
  obtain ⟨p, l, e, R, s, m, args, below, meth, c, Qf, G, nL⟩ := X
  obtain ⟨hx, hb, hml, hown, hts, hK, hlocks⟩ := hC
  dsimp only [xG, xm, xR, xn] at a4 a5 hmet hH hf hR hls ⊢
  rw [a1] at hmet ⊢
  rw [a4, a5]
  refine va_runI (As := es G τr xr) ⟨hx, hb, hml, hown, hts⟩ hmet (cwI τr.length hts ?_ rfl rfl rfl (hts _ hw4) (hts _ hw1) (hts _ hw2) hy1 hd hR) ⟨mP_blind _ _ _ _, fun U hU hW => ⟨by rw [a4], by rw [hU]; exact hH, hK.warm hW⟩⟩ rfl a6 hls rfl (lv_room (by rw [es_wd G τ _ (RS.len a7)]; exact hwd)) hdg hf
  exact goodW hg hw5 (ws0 := []) (fun w hw => by cases hw)
/-- a nest mate's constructor -/
theorem sd_inviN (hC : CF X cc own Ts) {y : MethodName} {cd : ByteArray} {mx index ci na mc ms MC MS : Nat} {rm : Room} {τr : List Nat} {f : tM} {host : String} (hg : Ts.all goodWord = true) (hM : Mt X.2.1 y (Cond.code y cd mx none :: Ts) rm ((10 + ci) :: τr) none f) (hτ : τf = ((10 + ci) :: τr).reverse ++ τ) (hna : na = τr.length + 1) (hmc : rm.cells = mc) (hms : rm.slots = ms) (hRc : (xR X).cells = MC) (hRs : (xR X).slots = MS) (hy1 : y.name = "<init>") (hw1 : (own, index, y, host) ∈ nestM) (hw2 : Cond.instanceMethod y ∈ Ts) (hw4 : Cond.initialized y.cls ∈ Ts) (hw5 : Cond.code y cd mx none ∈ Ts) (hd : y.cls ≠ "java/lang/invoke/MethodHandle" ∧ y.cls ≠ "java/lang/invoke/VarHandle" ∧ (parseMethodDescriptor y.desc).map (fun d => d.parameters.length) = some τr.length) (hR : rm.frames + 1 ≤ (xR X).frames ∧ 8 + (mx + 11) + rm.locals ≤ (xR X).locals) (hwd : wd τ ≤ 8) (hdg : decode cc pc = .ok (.invokespecial index, 3)) (hs : Sd X (pc + 3) Γ τ k) : Sd X pc Γ τf (o_room mc ms MC MS (o_invv na f mc ms k)) := by
  subst hτ; subst hna; subst hmc; subst hms; subst hRc; subst hRs
  intro lo st h cn sn H locs ls hk hH hL hS hl h1 h2
  obtain ⟨hf, hne, hk⟩ := hk
  refine call_core (k' := fun _ r h' => k lo r h' (cn + rm.cells) (sn + rm.slots)) hM ?_ hk hS hl fun v h' H' locs' a1 a2 a3 a4 a5 a6 => hs lo _ h' _ _ H' locs' ls a1 a2 (hL.mono a4) a5 a6 hf.1 hf.2
  intro Q hmet
  obtain ⟨b, xr, a1, a2, a3, a4, a5, a6, a7⟩ := es_args (xG X) hS (by omega) hne (fun a κ z => hH.pos z)
  have hls := hL.2.1.1
  obtain ⟨p, l, e, R, s, m, args, below, meth, c, Qf, G, nL⟩ := X
  obtain ⟨hx, hb, hml, hown, hts, hK, hlocks⟩ := hC
  dsimp only [xG, xm, xR, xn] at a4 a5 hmet hH hf hR hls ⊢
  rw [a1] at hmet ⊢
  rw [a4, a5]
  refine va_runIN (As := es G τr xr) ⟨hx, hb, hml, hown, hts⟩ hmet ⟨va_cnB τr.length hts ?_ rfl rfl rfl (hK.2.2.2.1 _ hw1) (hts _ hw4) hd hR, hy1, hts _ hw2⟩ ⟨mP_blind _ _ _ _, fun U hU hW => ⟨by rw [a4], by rw [hU]; exact hH, hK.warm hW⟩⟩ rfl a6 hls rfl (lv_room (by rw [es_wd G τ _ (RS.len a7)]; exact hwd)) hdg hf
  exact goodW hg hw5 (ws0 := []) (fun w hw => by cases hw)
theorem es_argsS (G : GT) {τs τ : List Nat} {h : tH} {st : List Int} (hS : RS h (τs.reverse ++ τ) st) : es G (τs.reverse ++ τ) st = (es G τs (st.take τs.length).reverse).reverse ++ es G τ (st.drop τs.length) ∧ (es G τs (st.take τs.length).reverse).length = τs.length ∧ RS h τ (st.drop τs.length) := by
  have hsp := hS.split
  rw [List.length_reverse] at hsp
  have hl1 := RS.len hsp.1
  have hl2 : (st.take τs.length).reverse.length = τs.length := by rw [List.length_reverse, hl1, List.length_reverse]
  refine ⟨?_, ?_, hsp.2⟩
  · rw [← es_rev G _ _ hl2, List.reverse_reverse, ← es_app G _ _ _ _ hl1, List.take_append_drop]
  · have : ∀ (τ : List Nat) (st : List Int), st.length = τ.length → (es G τ st).length = τ.length := by
      intro τ
      induction τ with
      | nil => intro st _; cases st <;> rfl
      | cons t τ ih =>
        intro st hh
        cases st with
        | nil => cases hh
        | cons x st => show (ev G t x :: es G τ st).length = _; rw [List.length_cons, ih st (by simpa using hh), List.length_cons]
    exact this τs _ hl2
/-- a static call -/
theorem sd_invs_core (hC : CF X cc own Ts) {y : MethodName} {cd : ByteArray} {mx index : Nat} {ret : Option FieldType} {rm : Room} {τs : List Nat} {rt : Option Nat} {f : tM} {nest : Bool} {host : String} (hg : Ts.all goodWord = true) (hM : Mt X.2.1 y (Cond.code y cd mx ret :: Ts) rm τs rt f) (hw1 : if nest = true then (own, index, y, host) ∈ nestM else Cond.methodLink own index y ∈ Ts) (hw2 : Cond.static y ∈ Ts) (hw4 : Cond.initialized y.cls ∈ Ts) (hw5 : Cond.code y cd mx ret ∈ Ts) (hd : y.cls ≠ "java/lang/invoke/MethodHandle" ∧ y.cls ≠ "java/lang/invoke/VarHandle" ∧ (parseMethodDescriptor y.desc).map (fun d => d.parameters.length) = some τs.length) (hR : rm.frames + 1 ≤ (xR X).frames ∧ 8 + (mx + 11) + rm.locals ≤ (xR X).locals) (hwd : wd τ ≤ 8) (hdg : decode cc pc = .ok (.invokestatic index, 3))
    {k' : Int → List Int → tH → Prop} {st : List Int} {h : tH} {cn sn : Nat} {H : Heap} {locs : List Loc} {ls : Array Slot} (hk : f (st.take τs.length).reverse h (fun v h' => k' v (st.drop τs.length) h')) (hH : RH (xG X) h H) (hls : ls.size = xn X) (hS : RS h (τs.reverse ++ τ) st) (hl : ∀ q ∈ locs, gB (xG X) ≤ q.base) (hf : cn + rm.cells ≤ (xR X).cells ∧ sn + rm.slots ≤ (xR X).slots)
    (kk : ∀ (v : Int) (h' : tH) (H' : Heap) (locs' : List Loc), k' v (st.drop τs.length) h' → RH (xG X) h' H' → (∀ ty, rt = some ty → vt h' ty v) → hLe h h' → RS h' τ (st.drop τs.length) → (∀ q ∈ locs', gB (xG X) ≤ q.base) → WX X H' locs' (cn + rm.cells) (sn + rm.slots) (F0 (xm X) (pc + 3) ls ((rt.map fun ty => ev (xG X) ty v).toList ++ es (xG X) τ (st.drop τs.length)))) : WX X H locs cn sn (F0 (xm X) pc ls (es (xG X) (τs.reverse ++ τ) st)) := by
  refine call_core hM ?_ hk hS hl kk
  intro Q hmet
  obtain ⟨a5, a6, a7⟩ := es_argsS (xG X) hS
  obtain ⟨p, l, e, R, s, m, args, below, meth, c, Qf, G, nL⟩ := X
  obtain ⟨hx, hb, hml, hown, hts, hK, hlocks⟩ := hC
  dsimp only [xG, xm, xR, xn] at a5 hmet hH hf hR hls ⊢
  rw [a5]
  have hgd := goodW hg hw5 (ws0 := []) (fun w hw => by cases hw)
  cases nest with
  | false =>
    exact va_runS ⟨hx, hb, hml, hown, hts⟩ hmet ⟨callB_of τs.length hts hgd rfl rfl rfl (hts _ hw4) (hts _ hw1) hd hR, hts _ hw2⟩ ⟨mP_blind _ _ _ _, fun U hU hW => ⟨rfl, by rw [hU]; exact hH, hK.warm hW⟩⟩ rfl a6 hls rfl (lv_room (by rw [es_wd G τ _ (RS.len a7)]; exact hwd)) hdg hf
  | true =>
    exact va_runSN ⟨hx, hb, hml, hown, hts⟩ hmet ⟨va_cnB τs.length hts hgd rfl rfl rfl (hK.2.2.2.1 _ hw1) (hts _ hw4) hd hR, hts _ hw2, trivial⟩ ⟨mP_blind _ _ _ _, fun U hU hW => ⟨rfl, by rw [hU]; exact hH, hK.warm hW⟩⟩ rfl a6 hls rfl (lv_room (by rw [es_wd G τ _ (RS.len a7)]; exact hwd)) hdg hf
theorem sd_invs (hC : CF X cc own Ts) {y : MethodName} {cd : ByteArray} {mx index t na : Nat} {ret : Option FieldType} {rm : Room} {τs : List Nat} {f : tM} (nest : Bool) (host : String) (hg : Ts.all goodWord = true) (hM : Mt X.2.1 y (Cond.code y cd mx ret :: Ts) rm τs (some t) f) (hτ : τf = τs.reverse ++ τ) (hna : na = τs.length) (hmc : rm.cells = 0) (hms : rm.slots = 0) (hw1 : if nest = true then (own, index, y, host) ∈ nestM else Cond.methodLink own index y ∈ Ts) (hw2 : Cond.static y ∈ Ts) (hw4 : Cond.initialized y.cls ∈ Ts) (hw5 : Cond.code y cd mx ret ∈ Ts) (hd : y.cls ≠ "java/lang/invoke/MethodHandle" ∧ y.cls ≠ "java/lang/invoke/VarHandle" ∧ (parseMethodDescriptor y.desc).map (fun d => d.parameters.length) = some τs.length) (hR : rm.frames + 1 ≤ (xR X).frames ∧ 8 + (mx + 11) + rm.locals ≤ (xR X).locals) (hwd : wd τ ≤ 8) (hdg : decode cc pc = .ok (.invokestatic index, 3)) (hs : Sd X (pc + 3) Γ (t :: τ) k) : Sd X pc Γ τf (o_call na f 0 0 k) := by
  subst hτ; subst hna
  intro lo st h cn sn H locs ls hk hH hL hS hl h1 h2
  exact sd_invs_core hC hg hM hw1 hw2 hw4 hw5 hd hR hwd hdg (k' := fun v r h' => k lo (v :: r) h' cn sn) hk hH hL.2.1.1 hS hl (by rw [hmc, hms]; exact ⟨h1, h2⟩) fun v h' H' locs' a1 a2 a3 a4 a5 a6 => by
    rw [hmc, hms]
    exact hs lo _ h' _ _ H' locs' ls a1 a2 (hL.mono a4) ⟨a3 t rfl, a5⟩ a6 h1 h2
theorem sd_invsv (hC : CF X cc own Ts) {y : MethodName} {cd : ByteArray} {mx index na : Nat} {ret : Option FieldType} {rm : Room} {τs : List Nat} {f : tM} (nest : Bool) (host : String) (hg : Ts.all goodWord = true) (hM : Mt X.2.1 y (Cond.code y cd mx ret :: Ts) rm τs none f) (hτ : τf = τs.reverse ++ τ) (hna : na = τs.length) (hmc : rm.cells = 0) (hms : rm.slots = 0) (hw1 : if nest = true then (own, index, y, host) ∈ nestM else Cond.methodLink own index y ∈ Ts) (hw2 : Cond.static y ∈ Ts) (hw4 : Cond.initialized y.cls ∈ Ts) (hw5 : Cond.code y cd mx ret ∈ Ts) (hd : y.cls ≠ "java/lang/invoke/MethodHandle" ∧ y.cls ≠ "java/lang/invoke/VarHandle" ∧ (parseMethodDescriptor y.desc).map (fun d => d.parameters.length) = some τs.length) (hR : rm.frames + 1 ≤ (xR X).frames ∧ 8 + (mx + 11) + rm.locals ≤ (xR X).locals) (hwd : wd τ ≤ 8) (hdg : decode cc pc = .ok (.invokestatic index, 3)) (hs : Sd X (pc + 3) Γ τ k) : Sd X pc Γ τf (o_callv na f 0 0 k) := by
  subst hτ; subst hna
  intro lo st h cn sn H locs ls hk hH hL hS hl h1 h2
  exact sd_invs_core hC hg hM hw1 hw2 hw4 hw5 hd hR hwd hdg (k' := fun _ r h' => k lo r h' cn sn) hk hH hL.2.1.1 hS hl (by rw [hmc, hms]; exact ⟨h1, h2⟩) fun v h' H' locs' a1 a2 a3 a4 a5 a6 => by
    rw [hmc, hms]
    exact hs lo _ h' _ _ H' locs' ls a1 a2 (hL.mono a4) a5 a6 h1 h2
/-- the constructor of Object -/
theorem sd_objInit (hC : CF X cc own Ts) {t index : Nat} (ht : 7 ≤ t) (hw1 : Cond.methodLink own index Lib.objectInit ∈ Ts) (hw2 : Cond.instanceMethod Lib.objectInit ∈ Ts) (hw3 : Cond.code Lib.objectInit ⟨#[0xb1]⟩ 1 none ∈ Ts) (hR : 1 ≤ (xR X).frames ∧ 20 ≤ (xR X).locals) (hwd : wd τ ≤ 8) (hdg : decode cc pc = .ok (.invokespecial index, 3)) (hs : Sd X (pc + 3) Γ τ k) : Sd X pc Γ (t :: τ) (o_this 0 (o_pop k)) := by
  intro lo st h cn sn H locs ls hk hH hL hS hl h1 h2
  obtain ⟨a, st, rfl, v1, hS⟩ := hS.c1
  obtain ⟨hne, hk⟩ := hk
  have hka : Kd h a = some t := (vt_obj ht v1).resolve_left hne
  have hp := hH.pos hka
  have kk := hs lo st h cn sn H locs ls hk hH hL hS hl h1 h2
  have hls := hL.2.1.1
  obtain ⟨p, l, e, R, s, m, args, below, meth, c, Qf, G, nL⟩ := X
  obtain ⟨hx, hb, hml, hown, hts, hK, hlocks⟩ := hC
  show W p l e R s m args below meth c H locs cn sn Qf (F0 m pc ls (ev G t a :: es G τ st))
  rw [ev_obj G ht, if_neg (by omega)]
  refine W.objInit hx hb hown (hts _ hw1) (hts _ hw2) (hts _ hw3) rfl (hls.trans hml.symm) rfl hdg hR.1 ?_ kk
  have h8 : 2 * (F0 m pc ls (Value.ref a.toNat :: es G τ st)).monitorRoom + ((es G τ st).map fun v => v.category).sum ≤ 8 := lv_room (by rw [es_wd G τ _ (RS.len hS)]; exact hwd)
  have := hR.2
  dsimp only [xR] at this
  omega
/-- where a method ends -/
def RT (X : CX) (ret : Option FieldType) (rt : Option Nat) (Q : tQ) : Prop := match X with
  | (_, _, _, R, s, _, args, below, meth, _, Qf, G, _) => Qf = MQ below (mQ G (gK G) rt Q) args s R.cells R.slots (fun q => gB G ≤ q) ∧ meth.sig.returnType = ret
theorem sd_ireturn (hC : CF X cc own Ts) {Q : tQ} (hT : RT X (some .int) (some 0) Q) (hdg : decode cc pc = .ok (.ireturn, 1)) : Sd X pc Γ [0] (o_ret Q) := by
  intro lo st h cn sn H locs ls hk hH hL hS hl h1 h2
  obtain ⟨v, st, rfl, v1, hS⟩ := hS.c1
  obtain ⟨p, l, e, R, s, m, args, below, meth, c, Qf, G, nL⟩ := X
  obtain ⟨hx, hb, hml, hown, hts, hK, hlocks⟩ := hC
  obtain ⟨rfl, hr⟩ := hT
  refine W.widen (k := R.cells) (n := R.slots) h1 h2 ?_
  cases st with
  | cons _ _ => exact hS.elim
  | nil => exact W.iret (v := Int32.ofInt v) hx hb hr (fun t ht hW => ⟨v, h, rfl, hk, by rw [ht]; exact hH, fun ty e => by cases e; exact v1, hL.2.2.2⟩) hl hdg hlocks
theorem sd_zreturn (hC : CF X cc own Ts) {Q : tQ} (hT : RT X (some .boolean) (some 0) Q) (hdg : decode cc pc = .ok (.ireturn, 1)) : Sd X pc Γ [0] (o_retz Q) := by
  intro lo st h cn sn H locs ls hk hH hL hS hl h1 h2
  obtain ⟨v, st, rfl, v1, hS⟩ := hS.c1
  obtain ⟨hz, hk⟩ := hk
  obtain ⟨p, l, e, R, s, m, args, below, meth, c, Qf, G, nL⟩ := X
  obtain ⟨hx, hb, hml, hown, hts, hK, hlocks⟩ := hC
  obtain ⟨rfl, hr⟩ := hT
  refine W.widen (k := R.cells) (n := R.slots) h1 h2 ?_
  cases st with
  | cons _ _ => exact hS.elim
  | nil => exact W.zret (v := Int32.ofInt v) (ty := .boolean) hx hb hr (by rcases hz with rfl | rfl <;> rfl) (fun t ht hW => ⟨v, h, rfl, hk, by rw [ht]; exact hH, fun ty e => by cases e; exact v1, hL.2.2.2⟩) hl hdg hlocks
theorem sd_lreturn (hC : CF X cc own Ts) {Q : tQ} (hT : RT X (some .long) (some 1) Q) (hdg : decode cc pc = .ok (.lreturn, 1)) : Sd X pc Γ [1] (o_ret Q) := by
  intro lo st h cn sn H locs ls hk hH hL hS hl h1 h2
  obtain ⟨v, st, rfl, v1, hS⟩ := hS.c1
  obtain ⟨p, l, e, R, s, m, args, below, meth, c, Qf, G, nL⟩ := X
  obtain ⟨hx, hb, hml, hown, hts, hK, hlocks⟩ := hC
  obtain ⟨rfl, hr⟩ := hT
  refine W.widen (k := R.cells) (n := R.slots) h1 h2 ?_
  cases st with
  | cons _ _ => exact hS.elim
  | nil => exact W.lret (v := Int64.ofInt v) hx hb hr (fun t ht hW => ⟨v, h, rfl, hk, by rw [ht]; exact hH, fun ty e => by cases e; exact v1, hL.2.2.2⟩) hl hdg hlocks
theorem sd_areturn (hC : CF X cc own Ts) {Q : tQ} {t : Nat} {C : String} (ht7 : 7 ≤ t) (hT : RT X (some (.object C)) (some t) Q) (hdg : decode cc pc = .ok (.areturn, 1)) : Sd X pc Γ [t] (o_ret Q) := by
  intro lo st h cn sn H locs ls hk hH hL hS hl h1 h2
  obtain ⟨v, st, rfl, v1, hS⟩ := hS.c1
  obtain ⟨p, l, e, R, s, m, args, below, meth, c, Qf, G, nL⟩ := X
  obtain ⟨hx, hb, hml, hown, hts, hK, hlocks⟩ := hC
  obtain ⟨rfl, hr⟩ := hT
  refine W.widen (k := R.cells) (n := R.slots) h1 h2 ?_
  cases st with
  | cons _ _ => exact hS.elim
  | nil => exact W.aret (v := ev G t v) hx hb hr (Or.inl ⟨C, rfl⟩) (ev_ref G (by omega) v) (fun t' ht hW => ⟨v, h, rfl, hk, by rw [ht]; exact hH, fun ty e => by cases e; exact v1, hL.2.2.2⟩) hl hdg hlocks
theorem sd_return (hC : CF X cc own Ts) {Q : tQ} (hT : RT X none none Q) (hdg : decode cc pc = .ok (.return_, 1)) : Sd X pc Γ [] (o_retv Q) := by
  intro lo st h cn sn H locs ls hk hH hL hS hl h1 h2
  obtain ⟨p, l, e, R, s, m, args, below, meth, c, Qf, G, nL⟩ := X
  obtain ⟨hx, hb, hml, hown, hts, hK, hlocks⟩ := hC
  obtain ⟨rfl, hr⟩ := hT
  refine W.widen (k := R.cells) (n := R.slots) h1 h2 ?_
  cases st with
  | cons _ _ => exact hS.elim
  | nil => exact W.vret hx hb hr (fun t ht hW => ⟨0, h, rfl, hk, by rw [ht]; exact hH, fun ty e => (by cases e), hL.2.2.2⟩) hl hdg hlocks
end SD8
/-- the locals at a method's entry: a long takes two -/
def plo : List Nat → List Int → List Int
  | t :: τ, x :: xs => if t = 1 then x :: 0 :: plo τ xs else x :: plo τ xs
  | _, _ => []
def loOf (τs : List Nat) (n : Nat) (xs : List Int) : List Int := plo τs xs ++ List.replicate (n - (plo τs xs).length) 0
def gam : Nat → List Nat → List (Nat × Nat)
  | i, t :: τ => (i, t) :: gam (if t = 1 then i + 2 else i + 1) τ
  | _, [] => []
theorem gam_args (G : GT) : ∀ (τs : List Nat) (xs : List Int) (pre post : List Int), xs.length = τs.length → (gam pre.length τs).map (fun q => (q.1, ev G q.2 ((pre ++ (plo τs xs ++ post)).getD q.1 0))) = lv_args pre.length (es G τs xs)
  | [], [], _, _, _ => rfl
  | t :: τ, x :: xs, pre, post, h => by
    have h' : xs.length = τ.length := by simpa using h
    have e0 : ∀ l : List Int, (pre ++ x :: l).getD pre.length 0 = x := fun l => by simp
    by_cases ht : t = 1
    · have e1 : plo (t :: τ) (x :: xs) = x :: 0 :: plo τ xs := if_pos ht
      have ih := gam_args G τ xs (pre ++ [x, 0]) post h'
      rw [show (pre ++ [x, 0]).length = pre.length + 2 by simp] at ih
      show (gam pre.length (t :: τ)).map _ = (pre.length, ev G t x) :: lv_args (if (ev G t x).category = 2 then pre.length + 2 else pre.length + 1) (es G τ xs)
      rw [ev_cat, if_pos ht, if_pos rfl, ← ih, e1]
      show (pre.length, ev G t ((pre ++ (x :: 0 :: plo τ xs ++ post)).getD pre.length 0)) :: (gam (if t = 1 then pre.length + 2 else pre.length + 1) τ).map _ = _
      rw [if_pos ht]
      simp [e0]
    · have e1 : plo (t :: τ) (x :: xs) = x :: plo τ xs := if_neg ht
      have ih := gam_args G τ xs (pre ++ [x]) post h'
      rw [show (pre ++ [x]).length = pre.length + 1 by simp] at ih
      show (gam pre.length (t :: τ)).map _ = (pre.length, ev G t x) :: lv_args (if (ev G t x).category = 2 then pre.length + 2 else pre.length + 1) (es G τ xs)
      rw [ev_cat, if_neg ht, if_neg (by decide), ← ih, e1]
      show (pre.length, ev G t ((pre ++ (x :: plo τ xs ++ post)).getD pre.length 0)) :: (gam (if t = 1 then pre.length + 2 else pre.length + 1) τ).map _ = _
      rw [if_neg ht]
      simp [e0]
  | [], _ :: _, _, _, h => by cases h
  | _ :: _, [], _, _, h => by cases h
theorem gam_vt {h : tH} : ∀ (τs : List Nat) (xs : List Int) (pre post : List Int), RS h τs xs → ∀ q ∈ gam pre.length τs, vt h q.2 ((pre ++ (plo τs xs ++ post)).getD q.1 0)
  | [], _, _, _, _, q, hq => by cases hq
  | t :: τ, [], _, _, r, _, _ => r.elim
  | t :: τ, x :: xs, pre, post, r, q, hq => by
    by_cases ht : t = 1
    · have e1 : plo (t :: τ) (x :: xs) = x :: 0 :: plo τ xs := if_pos ht
      have hq : q ∈ (pre.length, t) :: gam (if t = 1 then pre.length + 2 else pre.length + 1) τ := hq
      rw [if_pos ht] at hq
      rw [e1]
      rcases List.mem_cons.mp hq with rfl | hq
      · simp [r.1]
      · have ih := gam_vt τ xs (pre ++ [x, 0]) post r.2 q (by rw [show (pre ++ [x, 0]).length = pre.length + 2 by simp]; exact hq)
        simpa using ih
    · have e1 : plo (t :: τ) (x :: xs) = x :: plo τ xs := if_neg ht
      have hq : q ∈ (pre.length, t) :: gam (if t = 1 then pre.length + 2 else pre.length + 1) τ := hq
      rw [if_neg ht] at hq
      rw [e1]
      rcases List.mem_cons.mp hq with rfl | hq
      · simp [r.1]
      · have ih := gam_vt τ xs (pre ++ [x]) post r.2 q (by rw [show (pre ++ [x]).length = pre.length + 1 by simp]; exact hq)
        simpa using ih
theorem plo_len (G : GT) : ∀ (τs : List Nat) (xs : List Int), xs.length = τs.length → (plo τs xs).length = (lg_sl (es G τs xs)).length ∧ (plo τs xs).length = wd τs
  | [], [], _ => ⟨rfl, rfl⟩
  | t :: τ, x :: xs, h => by
    have h' : xs.length = τ.length := by simpa using h
    obtain ⟨i1, i2⟩ := plo_len G τ xs h'
    have e2 : lg_sl (es G (t :: τ) (x :: xs)) = (if (ev G t x).category = 2 then [.val (ev G t x), .second] else [.val (ev G t x)]) ++ lg_sl (es G τ xs) := by
      show lg_sl (ev G t x :: es G τ xs) = _
      simp [lg_sl]
    have e3 : wd (t :: τ) = (if t = 1 then 2 else 1) + wd τ := by simp [wd]
    rw [e2, e3, ev_cat]
    by_cases ht : t = 1
    · rw [show plo (t :: τ) (x :: xs) = x :: 0 :: plo τ xs from if_pos ht, if_pos ht]
      simp [i1, i2]
      omega
    · rw [show plo (t :: τ) (x :: xs) = x :: plo τ xs from if_neg ht, if_neg ht]
      simp [i1, i2]
      omega
  | [], _ :: _, h => by cases h
  | _ :: _, [], h => by cases h
/-- A METHOD'S CONTRACT out of the soundness of its entry -/
theorem Mt.mk {l : Launch} {y : MethodName} {cc : ByteArray} {mx : Nat} {ret : Option FieldType} {rm : Room} {τs : List Nat} {rt : Option Nat} {f : tM} {Ts : List Cond} {B : tQ → tK} (hy : plainName y.cls = true) (hmx : wd τs ≤ mx) (hf : ∀ xs h Q, f xs h Q → B Q (loOf τs mx xs) [] h 0 0)
    (body : ∀ (X : CX) (Q : tQ), X.2.1 = l → xn X = mx → xR X = rm → CF X cc y.cls Ts → X.2.2.2.2.2.2.2.2.1.name = y.name → RT X ret rt Q → Sd X 0 (gam 0 τs) [] (B Q)) : Mt l y (Cond.code y cc mx ret :: Ts) rm τs rt f := by
  intro G xs h Q hfq hRS
  refine Met.ofW (cc := cc) (maxL := mx) (ret := ret) hy rfl ?_
  intro p e s m args below meth c s₁ Bd hml hv
  obtain ⟨rfl, hH, hK⟩ := hv
  have hlen := RS.len hRS
  obtain ⟨pl1, pl2⟩ := plo_len G τs xs hlen
  have hts := atoms_spec (ws := Cond.code y cc mx ret :: Ts) Bd.pre
  have hs := body (p, l, e, rm, s, m, (es G τs xs).toArray, below, meth, c, MQ below (mQ G h rt Q) (es G τs xs).toArray s rm.cells rm.slots (fun q => gB G ≤ q), (gD G, gA G, gS G, gX G, gB G, gH G, gV G, h), mx) Q rfl rfl rfl ⟨Bd.exec, Bd.bytes, hml, findClass_of_methodNamed Bd.named, fun w hw => hts w (List.mem_cons_of_mem _ hw), hK, Bd.notSynchronized⟩ (name_of_methodNamed Bd.named Bd.method).1 ⟨rfl, Bd.returns⟩
  have hl := lv_entry (es G τs xs) (n := mx) (by rw [← pl1, pl2]; exact hmx)
  rw [lg_entry_eq]
  generalize (lg_sl (es G τs xs) ++ List.replicate (mx - (lg_sl (es G τs xs)).length) Slot.unset).toArray = ls at hl ⊢
  have hga := gam_args G τs xs [] (List.replicate (mx - (plo τs xs).length) 0) hlen
  refine hs (loOf τs mx xs) [] h 0 0 s.heap [] ls (hf xs h Q hfq) hH ⟨?_, ?_, ?_, hLe.rf⟩ trivial (fun q hq => by cases hq) (Nat.zero_le _) (Nat.zero_le _)
  · unfold loOf
    rw [List.length_append, List.length_replicate, pl2]
    dsimp only [xn]
    omega
  · have e9 : (gam 0 τs).map (fun q => (q.1, ev G q.2 ((loOf τs mx xs).getD q.1 0))) = lv_args 0 (es G τs xs) := hga
    show lv_has ls mx ((gam 0 τs).map fun q => (q.1, ev G q.2 ((loOf τs mx xs).getD q.1 0)))
    rw [e9]
    exact hl
  · exact gam_vt τs xs [] _ hRS

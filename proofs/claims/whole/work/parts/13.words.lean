/-! ===== the words that every method has ===== -/
def WALL : List Cond := lw_tbl.filter goodWord
theorem WG : WALL.all goodWord = true := by
  rw [List.all_eq_true]
  intro w hw
  exact (List.mem_filter.mp hw).2
theorem tbA {w : Cond} (h : w ∈ tables_1) (g : goodWord w = true) : w ∈ WALL := List.mem_filter.mpr ⟨List.mem_append_right _ h, g⟩
theorem tb1 {w : Cond} (h : w ∈ tables_1_1) (g : goodWord w = true) : w ∈ WALL := tbA (List.mem_append_left _ h) g
theorem tb2 {w : Cond} (h : w ∈ tables_1_2) (g : goodWord w = true) : w ∈ WALL := tbA (List.mem_append_right _ (List.mem_append_left _ h)) g
theorem tb3 {w : Cond} (h : w ∈ tables_1_3) (g : goodWord w = true) : w ∈ WALL := tbA (List.mem_append_right _ (List.mem_append_right _ (List.mem_append_left _ h))) g
theorem tb4 {w : Cond} (h : w ∈ tables_1_4) (g : goodWord w = true) : w ∈ WALL := tbA (List.mem_append_right _ (List.mem_append_right _ (List.mem_append_right _ (List.mem_append_left _ h)))) g
theorem tb5 {w : Cond} (h : w ∈ tables_1_5) (g : goodWord w = true) : w ∈ WALL := tbA (List.mem_append_right _ (List.mem_append_right _ (List.mem_append_right _ (List.mem_append_right _ (List.mem_append_left _ h))))) g
theorem tb6 {w : Cond} (h : w ∈ tables_1_6) (g : goodWord w = true) : w ∈ WALL := tbA (List.mem_append_right _ (List.mem_append_right _ (List.mem_append_right _ (List.mem_append_right _ (List.mem_append_right _ (List.mem_append_left _ h)))))) g
theorem tb7 {w : Cond} (h : w ∈ tables_1_7) (g : goodWord w = true) : w ∈ WALL := tbA (List.mem_append_right _ (List.mem_append_right _ (List.mem_append_right _ (List.mem_append_right _ (List.mem_append_right _ (List.mem_append_right _ (List.mem_append_left _ h))))))) g
theorem tb8 {w : Cond} (h : w ∈ tables_1_8) (g : goodWord w = true) : w ∈ WALL := tbA (List.mem_append_right _ (List.mem_append_right _ (List.mem_append_right _ (List.mem_append_right _ (List.mem_append_right _ (List.mem_append_right _ (List.mem_append_right _ h))))))) g
theorem tbS {q : MethodName × Nat} (h : q ∈ lw_privs) : Cond.selects q.1.cls q.1 q.1 ∈ WALL := List.mem_filter.mpr ⟨List.mem_append_left _ (List.mem_map.mpr ⟨q, h, rfl⟩), rfl⟩
theorem in_of {ws : List Cond} (h : (ws.all fun w => decide (w ∈ tables_1) && goodWord w) = true) : ∀ w ∈ ws, w ∈ WALL := by
  intro w hw
  have := List.all_eq_true.mp h w hw
  simp only [Bool.and_eq_true, decide_eq_true_eq] at this
  exact tbA this.1 this.2
theorem in_X0 : ∀ w ∈ u_ws RX0 TX0 2, w ∈ WALL := in_of (by decide +kernel)
theorem in_X1 : ∀ w ∈ u_ws RX1 TX1 12, w ∈ WALL := in_of (by decide +kernel)
theorem in_X2 : ∀ w ∈ u_ws RX2 TX2 10, w ∈ WALL := in_of (by decide +kernel)
theorem in_X3 : ∀ w ∈ u_ws RX3 TX3 6, w ∈ WALL := in_of (by decide +kernel)
theorem in_X4 : ∀ w ∈ u_ws RX4 TX4 15, w ∈ WALL := in_of (by decide +kernel)
theorem in_X5 : ∀ w ∈ u_ws RX5 TX5 3, w ∈ WALL := in_of (by decide +kernel)
theorem in_X6 : ∀ w ∈ u_ws RX6 TX6 7, w ∈ WALL := in_of (by decide +kernel)
theorem in_X7 : ∀ w ∈ u_ws RX7 TX7 7, w ∈ WALL := in_of (by decide +kernel)
theorem in_X8 : ∀ w ∈ u_ws RX8 TX8 18, w ∈ WALL := in_of (by decide +kernel)
theorem in_X9 : ∀ w ∈ u_ws RX9 TX9 28, w ∈ WALL := in_of (by decide +kernel)
theorem in_X10 : ∀ w ∈ u_ws RX10 TX10 45, w ∈ WALL := in_of (by decide +kernel)
section SD9
variable {X : CX} {pc : Nat} {Γ Γ' : List (Nat × Nat)} {τ τf : List Nat} {k kt kf : tK} {cc : ByteArray} {own : String} {Ts : List Cond}
theorem sd_inv0 (hC : CF X cc own Ts) {y : MethodName} {cd : ByteArray} {mx index ci t na : Nat} {ret : Option FieldType} {rm : Room} {τr : List Nat} {f : tM} {q : vw_C} (hg : Ts.all goodWord = true) (hM : Mt X.2.1 y (Cond.code y cd mx ret :: Ts) rm ((10 + ci) :: τr) (some t) f) (hτ : τf = ((10 + ci) :: τr).reverse ++ τ) (hna : na = τr.length + 1) (hmc : rm.cells = 0) (hms : rm.slots = 0) (hcl : clsA[ci]? = some q) (hqy : y.cls = q.1) (hw1 : Cond.methodLink own index y ∈ Ts) (hw2 : Cond.instanceMethod y ∈ Ts) (hw3 : Cond.selects q.1 y y ∈ Ts) (hw4 : Cond.initialized q.1 ∈ Ts) (hw5 : Cond.code y cd mx ret ∈ Ts) (hd : y.cls ≠ "java/lang/invoke/MethodHandle" ∧ y.cls ≠ "java/lang/invoke/VarHandle" ∧ (parseMethodDescriptor y.desc).map (fun d => d.parameters.length) = some τr.length) (hR : rm.frames + 1 ≤ (xR X).frames ∧ 8 + (mx + 11) + rm.locals ≤ (xR X).locals) (hwd : wd τ ≤ 8) (hdg : decode cc pc = .ok (.invokevirtual index, 3)) (hs : Sd X (pc + 3) Γ (t :: τ) k) : Sd X pc Γ τf (o_inv na f 0 0 k) := by
  subst hτ; subst hna
  intro lo st h cn sn H locs ls hk hH hL hS hl h1 h2
  obtain ⟨hne, hk⟩ := hk
  exact sd_inv_core hC hg hM hcl hqy hw1 hw2 hw3 hw4 hw5 hd hR hwd hdg (k' := fun v r h' => k lo (v :: r) h' cn sn) hne hk hH hL.2.1.1 hS hl (by rw [hmc, hms]; exact ⟨h1, h2⟩) fun v h' H' locs' a1 a2 a3 a4 a5 a6 => by
    rw [hmc, hms]
    exact hs lo _ h' _ _ H' locs' ls a1 a2 (hL.mono a4) ⟨a3 t rfl, a5⟩ a6 h1 h2
theorem sd_inv0v (hC : CF X cc own Ts) {y : MethodName} {cd : ByteArray} {mx index ci na : Nat} {ret : Option FieldType} {rm : Room} {τr : List Nat} {f : tM} {q : vw_C} (hg : Ts.all goodWord = true) (hM : Mt X.2.1 y (Cond.code y cd mx ret :: Ts) rm ((10 + ci) :: τr) none f) (hτ : τf = ((10 + ci) :: τr).reverse ++ τ) (hna : na = τr.length + 1) (hmc : rm.cells = 0) (hms : rm.slots = 0) (hcl : clsA[ci]? = some q) (hqy : y.cls = q.1) (hw1 : Cond.methodLink own index y ∈ Ts) (hw2 : Cond.instanceMethod y ∈ Ts) (hw3 : Cond.selects q.1 y y ∈ Ts) (hw4 : Cond.initialized q.1 ∈ Ts) (hw5 : Cond.code y cd mx ret ∈ Ts) (hd : y.cls ≠ "java/lang/invoke/MethodHandle" ∧ y.cls ≠ "java/lang/invoke/VarHandle" ∧ (parseMethodDescriptor y.desc).map (fun d => d.parameters.length) = some τr.length) (hR : rm.frames + 1 ≤ (xR X).frames ∧ 8 + (mx + 11) + rm.locals ≤ (xR X).locals) (hwd : wd τ ≤ 8) (hdg : decode cc pc = .ok (.invokevirtual index, 3)) (hs : Sd X (pc + 3) Γ τ k) : Sd X pc Γ τf (o_invv na f 0 0 k) := by
  subst hτ; subst hna
  intro lo st h cn sn H locs ls hk hH hL hS hl h1 h2
  obtain ⟨hne, hk⟩ := hk
  exact sd_inv_core hC hg hM hcl hqy hw1 hw2 hw3 hw4 hw5 hd hR hwd hdg (k' := fun _ r h' => k lo r h' cn sn) hne hk hH hL.2.1.1 hS hl (by rw [hmc, hms]; exact ⟨h1, h2⟩) fun v h' H' locs' a1 a2 a3 a4 a5 a6 => by
    rw [hmc, hms]
    exact hs lo _ h' _ _ H' locs' ls a1 a2 (hL.mono a4) a5 a6 h1 h2
end SD9

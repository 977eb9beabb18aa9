/-! ===== the law's walk ===== -/
theorem whole_start {p : Program} {e : Env} {s : State} {m : MethodId} {below : List Frame} {meth : Method} {c : Code} (l : Launch) (hfl : l.stackTraces = false) {b L : Nat} {xs : Nat → Int32} (hL : L ≤ 3584) (C0 : lw_At p s m meth c b L xs) : W p l e room_1 s m #[Value.ref b] below meth c s.heap [] 0 0 (lw_Z below #[Value.ref b] s) (entryFrame m ([Value.ref b] : List Value).toArray 7) := by
  obtain ⟨hx, hb, hr, hml, hown, hts, hX, hbl, hlocks, hgv⟩ := id C0
  obtain ⟨D, A, S, V, hK⟩ := ku_start hts hgv
  obtain ⟨h0, hh0⟩ : ∃ h0 : tH, h0 = (fun _ => none, fun _ => 0, fun _ _ => 0, s.heap.size) := ⟨_, rfl⟩
  obtain ⟨X, hXd⟩ : ∃ X : CX, X = (p, l, e, room_1, s, m, #[Value.ref b], below, meth, c, lw_Z below #[Value.ref b] s, (D, A, S, b, s.heap.size, s.heap, V, h0), 7) := ⟨_, rfl⟩
  have hC : CF X cL_law RL WALL := by
    rw [hXd]
    exact ⟨hx, hb, hml, hown, fun w hw => hts w (List.mem_filter.mp hw).1, hK h0, hlocks⟩
  have hS := S_law (sL := L) (sx := xs) (Q := fun v _ => v = 1) hC (by rw [hXd]; rfl) (by rw [hXd]; rfl) (by rw [hXd]; exact ⟨hX, hbl, hL⟩) (by rw [hXd]; exact ⟨fun v h q => q, rfl, ⟨b, rfl⟩, rfl, rfl, hr⟩) (law_led (by rw [hXd]; exact hfl) hC (by rw [hXd]; rfl) (by rw [hXd]; exact EX.of hts))
  have hl := lv_entry ([Value.ref b]) (n := 7) (Nat.le_of_ble_eq_true rfl)
  rw [lg_entry_eq]
  generalize (lg_sl ([Value.ref b]) ++ List.replicate (7 - (lg_sl ([Value.ref b])).length) Slot.unset).toArray = ls at hl ⊢
  have hl : lv_has ls 7 [(0, .ref b)] := hl
  rw [hXd] at hS
  have hN : Nx h0 = s.heap.size := by rw [hh0]; rfl
  have hk0 : ∀ a : Int, Kd h0 a = none := fun a => by rw [hh0]; rfl
  clear hh0 hXd hC
  exact hS [0, 0, 0, 0, 0, 0, 0] [] h0 0 0 s.heap [] ls (law_start (L := vLg h0) (R := vRf h0) (F := vFd h0) (E := vEl h0) (b := Nx h0) hL (fun _ => rfl)) ⟨hN.symm, Nat.le_of_eq hN.symm, fun q _ => rfl, fun a κ z => by rw [hk0 a] at z; cases z⟩ ⟨rfl, hl, fun q hq => by rw [List.mem_singleton.mp hq]; trivial, hLe.rf⟩ trivial (fun q hq => by cases hq) (Nat.zero_le _) (Nat.zero_le _)

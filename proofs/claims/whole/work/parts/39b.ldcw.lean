theorem sd_ldc_w {X : CX} {pc : Nat} {Γ : List (Nat × Nat)} {τ : List Nat} {k : tK} {cc : ByteArray} {own : String} {Ts : List Cond} (hC : CF X cc own Ts) {n : Int} {index : Nat} (hw : Cond.constant own index (Int32.ofInt n) ∈ Ts) (hdg : decode cc pc = .ok (.ldc_w index, 3)) (hn : inI n) (hs : Sd X (pc + 3) Γ (0 :: τ) k) : Sd X pc Γ τ (o_const n k) := by
  refine sd_push (ty := 0) (len := 3) (fun _ => hn) ?_ hs
  intro H locs cn sn ls rest kk
  obtain ⟨p, l, e, R, s, m, args, below, meth, c, Q, G, nL⟩ := X
  obtain ⟨hx, hb, hml, hown, hts, hK, hlk⟩ := hC
  exact lv_ldcw hx hb hown (hts _ hw) hdg kk
theorem su_ldc_w {X : CX} {pc : Nat} {Γ : List (Nat × Nat)} {τ : List Nat} {k : xK} {cc : ByteArray} {own : String} {Ts : List Cond} (hC : CF X cc own Ts) {n : Int} {index : Nat} (hw : Cond.constant own index (Int32.ofInt n) ∈ Ts) (hdg : decode cc pc = .ok (.ldc_w index, 3)) (hn : inI n) (hs : SdS X (pc + 3) Γ (0 :: τ) k) : SdS X pc Γ τ (x_const n k) := Sd.imp (fun lo st h cn sn hk => hk) (sd_ldc_w hC hw hdg hn hs)

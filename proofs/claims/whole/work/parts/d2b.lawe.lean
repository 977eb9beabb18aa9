def E_L_law (sL : Nat) (sx : Nat → Int32) (Q : xQ) : xK := x_fresh (x_new 18 601024 7293034 (x_dup (x_room 328 5521 601024 7293034 (x_invv 1 T_X8_init 328 5521 (x_store 1 (x_fresh (x_new 45 601024 7293034 (x_dup (x_room 15 4863 601024 7293034 (x_invv 1 T_X10_init 15 4863 (x_store 2 (x_const 1 (x_newa 601024 7293034 (x_store 3 (x_const 0 (x_store 4 (L_L_law_23 sL sx Q)))))))))))))))))
set_option maxRecDepth 100000 in
set_option maxHeartbeats 4000000 in
theorem S_law {X : CX} {sL : Nat} {sx : Nat → Int32} {Q : xQ} (hC : CF X cL_law RL WALL) (e2 : xn X = 7) (e3 : xR X = room_1) (hX : SX X sL sx) (hT : LT X Q) (hled : LH X) : SdS X 0 [(0, 6)] [] (E_L_law sL sx Q) := by
  unfold E_L_law
  refine su_fresh ?_
  refine su_new hC (ci := 8) (C := RX8) (T := TX8) (N := 18) tyX8 tyX8_ok (by decide) rfl in_X8 wl_1_23 wl_1_24 wl_1_1 (by rw [e3]; rfl) (by rw [e3]; rfl) dL_law_0 (?_ : SdS X 3 [(0, 6)] [18] _)
  refine su_dup hC (by decide) dL_law_3 (?_ : SdS X 4 [(0, 6)] [18, 18] _)
  refine su_invi (τ := [18]) (τr := []) (ci := 8) hC WG (M_X8_init _) rfl rfl rfl rfl (by rw [e3]; rfl) (by rw [e3]; rfl) rfl wl_1_25 wl_1_26 wl_1_1 wl_1_27 hd_X8_init (by rw [e3]; decide) (by decide) dL_law_4 (?_ : SdS X 7 [(0, 6)] [18] _)
  refine su_astore_n (Γ' := [(0, 6), (1, 18)]) hC dL_law_7 rfl (by decide) (by rw [e2]; decide) (by decide) (?_ : SdS X 8 [(0, 6), (1, 18)] [] _)
  refine su_fresh ?_
  refine su_new hC (ci := 10) (C := RX10) (T := TX10) (N := 45) tyX10 tyX10_ok (by decide) rfl in_X10 wl_5_158 wl_5_159 wl_1_10 (by rw [e3]; rfl) (by rw [e3]; rfl) dL_law_8 (?_ : SdS X 11 [(0, 6), (1, 18)] [20] _)
  refine su_dup hC (by decide) dL_law_11 (?_ : SdS X 12 [(0, 6), (1, 18)] [20, 20] _)
  refine su_invi (τ := [20]) (τr := []) (ci := 10) hC WG (M_X10_init _) rfl rfl rfl rfl (by rw [e3]; rfl) (by rw [e3]; rfl) rfl wl_5_160 wl_5_161 wl_1_10 wl_5_162 hd_X10_init (by rw [e3]; decide) (by decide) dL_law_12 (?_ : SdS X 15 [(0, 6), (1, 18)] [20] _)
  refine su_astore_n (Γ' := [(0, 6), (1, 18), (2, 20)]) hC dL_law_15 rfl (by decide) (by rw [e2]; decide) (by decide) (?_ : SdS X 16 [(0, 6), (1, 18), (2, 20)] [] _)
  refine su_iconst hC dL_law_16 ⟨by decide, by decide⟩ (?_ : SdS X 17 [(0, 6), (1, 18), (2, 20)] [0] _)
  refine su_newa hC (atype := .long) (e := 1) (List.mem_of_getElem? (i := 1) rfl) (fun C z => by cases z) rfl (by decide) wl_1_199 (by rw [e3]; rfl) (by rw [e3]; rfl) dL_law_17 (?_ : SdS X 19 [(0, 6), (1, 18), (2, 20)] [101] _)
  refine su_astore_n (Γ' := [(0, 6), (1, 18), (2, 20), (3, 101)]) hC dL_law_19 rfl (by decide) (by rw [e2]; decide) (by decide) (?_ : SdS X 20 [(0, 6), (1, 18), (2, 20), (3, 101)] [] _)
  refine su_iconst hC dL_law_20 ⟨by decide, by decide⟩ (?_ : SdS X 21 [(0, 6), (1, 18), (2, 20), (3, 101)] [0] _)
  refine su_istore (Γ' := [(0, 6), (1, 18), (2, 20), (3, 101), (4, 0)]) hC dL_law_21 (by rw [e2]; decide) (by decide) (?_ : SdS X 23 [(0, 6), (1, 18), (2, 20), (3, 101), (4, 0)] [] _)
  exact SdS.weak (by decide) (SL_23 hC e2 e3 hX hT hled)

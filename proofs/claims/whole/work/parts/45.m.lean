theorem wl_1_208 : Cond.fieldLink RX3 109 "NarrowRings$Finder" "least" "I" ∈ WALL := tb1 (List.mem_of_getElem? (i := 208) rfl) rfl
theorem hd_X3_firstBest : yX3_firstBest.cls ≠ "java/lang/invoke/MethodHandle" ∧ yX3_firstBest.cls ≠ "java/lang/invoke/VarHandle" ∧ (parseMethodDescriptor yX3_firstBest.desc).map (fun d => d.parameters.length) = some 2 := by decide +kernel
set_option maxRecDepth 100000 in
set_option maxHeartbeats 4000000 in
theorem M_X3_firstBest (l : Launch) : MtS l yX3_firstBest (Cond.code yX3_firstBest cX3_firstBest 6 (some .int) :: WALL) { frames := 1, cells := 0, slots := 0, locals := 22 } [13, 0, 0] (some 0) T_X3_firstBest := by
  refine MtS.mk (B := E_X3_firstBest) (by decide +kernel) (by decide) (fun _ _ _ hh => hh) ?_
  intro X Q e1 e2 e3 hC hN hT
  subst e1
  have hC : CF X cX3_firstBest RX3 WALL := hC
  have S_95 : ∀ (k11 : xK), SdS X 11 [(0, 13), (1, 0), (2, 0), (3, 0), (4, 0)] [] k11 → SdS X 95 [(0, 13), (1, 0), (2, 0), (3, 0), (4, 0)] [] (B_X3_firstBest_95 Q k11) := by
    intro k11 h11
    unfold B_X3_firstBest_95
    refine su_iinc (Γ' := [(0, 13), (1, 0), (2, 0), (3, 0), (4, 0)]) hC dX3_firstBest_95 (by decide) (by rw [e2]; decide) (by decide) (?_ : SdS X 98 [(0, 13), (1, 0), (2, 0), (3, 0), (4, 0)] [] _)
    refine su_goto (tgt := 11) hC dX3_firstBest_98 rfl (?_ : SdS X 11 [(0, 13), (1, 0), (2, 0), (3, 0), (4, 0)] [] _)
    exact SdS.weak (by decide) h11
  have S_11 : SdS X 11 [(0, 13), (1, 0), (2, 0), (3, 0), (4, 0)] [] (L_X3_firstBest_11 Q) := by
    unfold L_X3_firstBest_11
    refine SdS.loop (fun k11 h11 => ?_)
    refine su_iload hC dX3_firstBest_11 (by decide) (?_ : SdS X 13 [(0, 13), (1, 0), (2, 0), (3, 0), (4, 0)] [0] _)
    refine su_aload_n hC 13 dX3_firstBest_13 rfl (by decide) (by decide) (?_ : SdS X 14 [(0, 13), (1, 0), (2, 0), (3, 0), (4, 0)] [13, 0] _)
    refine su_getR hC (ci := 3) (j := 0) (C := RX3) (T := TX3) (N := 6) rfl rfl (by decide) in_X3 wl_1_206 rfl dX3_firstBest_14 (?_ : SdS X 17 [(0, 13), (1, 0), (2, 0), (3, 0), (4, 0)] [11, 0] _)
    refine su_getF hC (ci := 1) (j := 1) (C := RX1) (T := TX1) (N := 12) rfl rfl (by decide) in_X1 wl_1_84 rfl dX3_firstBest_17 (?_ : SdS X 20 [(0, 13), (1, 0), (2, 0), (3, 0), (4, 0)] [0, 0] _)
    refine su_icmp_ge (tgt := 101) hC dX3_firstBest_20 rfl (?_ : SdS X 101 [(0, 13), (1, 0), (2, 0), (3, 0), (4, 0)] [] _) (?_ : SdS X 23 [(0, 13), (1, 0), (2, 0), (3, 0), (4, 0)] [] _)
    · refine su_iload_n hC dX3_firstBest_101 rfl (by decide) (?_ : SdS X 102 [(0, 13), (1, 0), (2, 0), (3, 0), (4, 0)] [0] _)
      exact su_ireturn hC hT dX3_firstBest_102
    · refine su_aload_n hC 13 dX3_firstBest_23 rfl (by decide) (by decide) (?_ : SdS X 24 [(0, 13), (1, 0), (2, 0), (3, 0), (4, 0)] [13] _)
      refine su_getR hC (ci := 3) (j := 0) (C := RX3) (T := TX3) (N := 6) rfl rfl (by decide) in_X3 wl_1_206 rfl dX3_firstBest_24 (?_ : SdS X 27 [(0, 13), (1, 0), (2, 0), (3, 0), (4, 0)] [11] _)
      refine su_getR hC (ci := 1) (j := 6) (C := RX1) (T := TX1) (N := 12) rfl rfl (by decide) in_X1 wl_1_105 rfl dX3_firstBest_27 (?_ : SdS X 30 [(0, 13), (1, 0), (2, 0), (3, 0), (4, 0)] [200] _)
      refine su_iload hC dX3_firstBest_30 (by decide) (?_ : SdS X 32 [(0, 13), (1, 0), (2, 0), (3, 0), (4, 0)] [0, 200] _)
      refine su_aaload (e := 100) hC (List.mem_of_getElem? (i := 7) rfl) rfl rfl rfl dX3_firstBest_32 (?_ : SdS X 33 [(0, 13), (1, 0), (2, 0), (3, 0), (4, 0)] [100] _)
      refine su_iconst hC dX3_firstBest_33 ⟨by decide, by decide⟩ (?_ : SdS X 34 [(0, 13), (1, 0), (2, 0), (3, 0), (4, 0)] [0, 100] _)
      refine su_iaload hC dX3_firstBest_34 (?_ : SdS X 35 [(0, 13), (1, 0), (2, 0), (3, 0), (4, 0)] [0] _)
      refine su_iload_n hC dX3_firstBest_35 rfl (by decide) (?_ : SdS X 36 [(0, 13), (1, 0), (2, 0), (3, 0), (4, 0)] [0, 0] _)
      refine su_icmp_ne (tgt := 95) hC dX3_firstBest_36 rfl (?_ : SdS X 95 [(0, 13), (1, 0), (2, 0), (3, 0), (4, 0)] [] _) (?_ : SdS X 39 [(0, 13), (1, 0), (2, 0), (3, 0), (4, 0)] [] _)
      · exact SdS.weak (by decide) (S_95 k11 h11)
      · refine su_aload_n hC 13 dX3_firstBest_39 rfl (by decide) (by decide) (?_ : SdS X 40 [(0, 13), (1, 0), (2, 0), (3, 0), (4, 0)] [13] _)
        refine su_getR hC (ci := 3) (j := 4) (C := RX3) (T := TX3) (N := 6) rfl rfl (by decide) in_X3 wl_1_210 rfl dX3_firstBest_40 (?_ : SdS X 43 [(0, 13), (1, 0), (2, 0), (3, 0), (4, 0)] [100] _)
        refine su_iload hC dX3_firstBest_43 (by decide) (?_ : SdS X 45 [(0, 13), (1, 0), (2, 0), (3, 0), (4, 0)] [0, 100] _)
        refine su_iaload hC dX3_firstBest_45 (?_ : SdS X 46 [(0, 13), (1, 0), (2, 0), (3, 0), (4, 0)] [0] _)
        refine su_ldc hC wl_3_188 dX3_firstBest_46 ⟨by decide, by decide⟩ (?_ : SdS X 48 [(0, 13), (1, 0), (2, 0), (3, 0), (4, 0)] [0, 0] _)
        refine su_icmp_ge (tgt := 95) hC dX3_firstBest_48 rfl (?_ : SdS X 95 [(0, 13), (1, 0), (2, 0), (3, 0), (4, 0)] [] _) (?_ : SdS X 51 [(0, 13), (1, 0), (2, 0), (3, 0), (4, 0)] [] _)
        · exact SdS.weak (by decide) (S_95 k11 h11)
        · refine su_iload_n hC dX3_firstBest_51 rfl (by decide) (?_ : SdS X 52 [(0, 13), (1, 0), (2, 0), (3, 0), (4, 0)] [0] _)
          refine su_aload_n hC 13 dX3_firstBest_52 rfl (by decide) (by decide) (?_ : SdS X 53 [(0, 13), (1, 0), (2, 0), (3, 0), (4, 0)] [13, 0] _)
          refine su_getR hC (ci := 3) (j := 0) (C := RX3) (T := TX3) (N := 6) rfl rfl (by decide) in_X3 wl_1_206 rfl dX3_firstBest_53 (?_ : SdS X 56 [(0, 13), (1, 0), (2, 0), (3, 0), (4, 0)] [11, 0] _)
          refine su_getR hC (ci := 1) (j := 6) (C := RX1) (T := TX1) (N := 12) rfl rfl (by decide) in_X1 wl_1_105 rfl dX3_firstBest_56 (?_ : SdS X 59 [(0, 13), (1, 0), (2, 0), (3, 0), (4, 0)] [200, 0] _)
          refine su_iload hC dX3_firstBest_59 (by decide) (?_ : SdS X 61 [(0, 13), (1, 0), (2, 0), (3, 0), (4, 0)] [0, 200, 0] _)
          refine su_aaload (e := 100) hC (List.mem_of_getElem? (i := 7) rfl) rfl rfl rfl dX3_firstBest_61 (?_ : SdS X 62 [(0, 13), (1, 0), (2, 0), (3, 0), (4, 0)] [100, 0] _)
          refine su_iconst hC dX3_firstBest_62 ⟨by decide, by decide⟩ (?_ : SdS X 63 [(0, 13), (1, 0), (2, 0), (3, 0), (4, 0)] [0, 100, 0] _)
          refine su_iaload hC dX3_firstBest_63 (?_ : SdS X 64 [(0, 13), (1, 0), (2, 0), (3, 0), (4, 0)] [0, 0] _)
          refine su_invs (τ := []) (τs := [0, 0]) hC true "NarrowRings" WG (M_X8_apart _) rfl rfl rfl rfl (by decide) wl_3_194 wl_1_1 wl_3_195 hd_X8_apart (by rw [e3]; decide) (by decide) dX3_firstBest_64 (?_ : SdS X 67 [(0, 13), (1, 0), (2, 0), (3, 0), (4, 0)] [0] _)
          refine su_aload_n hC 13 dX3_firstBest_67 rfl (by decide) (by decide) (?_ : SdS X 68 [(0, 13), (1, 0), (2, 0), (3, 0), (4, 0)] [13, 0] _)
          refine su_getR hC (ci := 3) (j := 4) (C := RX3) (T := TX3) (N := 6) rfl rfl (by decide) in_X3 wl_1_210 rfl dX3_firstBest_68 (?_ : SdS X 71 [(0, 13), (1, 0), (2, 0), (3, 0), (4, 0)] [100, 0] _)
          refine su_iload hC dX3_firstBest_71 (by decide) (?_ : SdS X 73 [(0, 13), (1, 0), (2, 0), (3, 0), (4, 0)] [0, 100, 0] _)
          refine su_iaload hC dX3_firstBest_73 (?_ : SdS X 74 [(0, 13), (1, 0), (2, 0), (3, 0), (4, 0)] [0, 0] _)
          refine su_iadd hC dX3_firstBest_74 (?_ : SdS X 75 [(0, 13), (1, 0), (2, 0), (3, 0), (4, 0)] [0] _)
          refine su_istore (Γ' := [(0, 13), (1, 0), (2, 0), (3, 0), (4, 0), (5, 0)]) hC dX3_firstBest_75 (by rw [e2]; decide) (by decide) (?_ : SdS X 77 [(0, 13), (1, 0), (2, 0), (3, 0), (4, 0), (5, 0)] [] _)
          refine su_iload hC dX3_firstBest_77 (by decide) (?_ : SdS X 79 [(0, 13), (1, 0), (2, 0), (3, 0), (4, 0), (5, 0)] [0] _)
          refine su_aload_n hC 13 dX3_firstBest_79 rfl (by decide) (by decide) (?_ : SdS X 80 [(0, 13), (1, 0), (2, 0), (3, 0), (4, 0), (5, 0)] [13, 0] _)
          refine su_getF hC (ci := 3) (j := 2) (C := RX3) (T := TX3) (N := 6) rfl rfl (by decide) in_X3 wl_1_208 rfl dX3_firstBest_80 (?_ : SdS X 83 [(0, 13), (1, 0), (2, 0), (3, 0), (4, 0), (5, 0)] [0, 0] _)
          refine su_icmp_ge (tgt := 95) hC dX3_firstBest_83 rfl (?_ : SdS X 95 [(0, 13), (1, 0), (2, 0), (3, 0), (4, 0), (5, 0)] [] _) (?_ : SdS X 86 [(0, 13), (1, 0), (2, 0), (3, 0), (4, 0), (5, 0)] [] _)
          · exact SdS.weak (by decide) (S_95 k11 h11)
          · refine su_iload hC dX3_firstBest_86 (by decide) (?_ : SdS X 88 [(0, 13), (1, 0), (2, 0), (3, 0), (4, 0), (5, 0)] [0] _)
            refine su_istore_n (Γ' := [(0, 13), (1, 0), (2, 0), (3, 0), (4, 0), (5, 0)]) hC dX3_firstBest_88 rfl (by rw [e2]; decide) (by decide) (?_ : SdS X 89 [(0, 13), (1, 0), (2, 0), (3, 0), (4, 0), (5, 0)] [] _)
            refine su_aload_n hC 13 dX3_firstBest_89 rfl (by decide) (by decide) (?_ : SdS X 90 [(0, 13), (1, 0), (2, 0), (3, 0), (4, 0), (5, 0)] [13] _)
            refine su_iload hC dX3_firstBest_90 (by decide) (?_ : SdS X 92 [(0, 13), (1, 0), (2, 0), (3, 0), (4, 0), (5, 0)] [0, 13] _)
            refine su_putF hC (ci := 3) (j := 2) (C := RX3) (T := TX3) (N := 6) tyX3 tyX3_ok nmX3 rfl rfl (by decide) in_X3 rfl rfl wl_1_208 rfl dX3_firstBest_92 (?_ : SdS X 95 [(0, 13), (1, 0), (2, 0), (3, 0), (4, 0), (5, 0)] [] _)
            exact SdS.weak (by decide) (S_95 k11 h11)
  refine (?_ : SdS X 0 [(0, 13), (1, 0), (2, 0)] [] (E_X3_firstBest Q))
  unfold E_X3_firstBest
  refine su_iconst hC dX3_firstBest_0 ⟨by decide, by decide⟩ (?_ : SdS X 1 [(0, 13), (1, 0), (2, 0)] [0] _)
  refine su_istore_n (Γ' := [(0, 13), (1, 0), (2, 0), (3, 0)]) hC dX3_firstBest_1 rfl (by rw [e2]; decide) (by decide) (?_ : SdS X 2 [(0, 13), (1, 0), (2, 0), (3, 0)] [] _)
  refine su_aload_n hC 13 dX3_firstBest_2 rfl (by decide) (by decide) (?_ : SdS X 3 [(0, 13), (1, 0), (2, 0), (3, 0)] [13] _)
  refine su_ldc hC wl_3_188 dX3_firstBest_3 ⟨by decide, by decide⟩ (?_ : SdS X 5 [(0, 13), (1, 0), (2, 0), (3, 0)] [0, 13] _)
  refine su_putF hC (ci := 3) (j := 2) (C := RX3) (T := TX3) (N := 6) tyX3 tyX3_ok nmX3 rfl rfl (by decide) in_X3 rfl rfl wl_1_208 rfl dX3_firstBest_5 (?_ : SdS X 8 [(0, 13), (1, 0), (2, 0), (3, 0)] [] _)
  refine su_iconst hC dX3_firstBest_8 ⟨by decide, by decide⟩ (?_ : SdS X 9 [(0, 13), (1, 0), (2, 0), (3, 0)] [0] _)
  refine su_istore (Γ' := [(0, 13), (1, 0), (2, 0), (3, 0), (4, 0)]) hC dX3_firstBest_9 (by rw [e2]; decide) (by decide) (?_ : SdS X 11 [(0, 13), (1, 0), (2, 0), (3, 0), (4, 0)] [] _)
  exact SdS.weak (by decide) (S_11)
theorem wl_3_204 : Cond.methodLink RX3 106 yX3_firstBest ∈ WALL := tb3 (List.mem_of_getElem? (i := 204) rfl) rfl
theorem wl_3_206 : Cond.instanceMethod yX3_firstBest ∈ WALL := tb3 (List.mem_of_getElem? (i := 206) rfl) rfl
theorem wp_31 : Cond.selects RX3 yX3_firstBest yX3_firstBest ∈ WALL := tbS (List.mem_of_getElem? (i := 31) rfl)
theorem wl_1_5 : Cond.initialized RX3 ∈ WALL := tb1 (List.mem_of_getElem? (i := 5) rfl) rfl
theorem wl_3_207 : Cond.code yX3_firstBest cX3_firstBest 6 (some .int) ∈ WALL := tb3 (List.mem_of_getElem? (i := 207) rfl) rfl
theorem hd_X3_restFrom : yX3_restFrom.cls ≠ "java/lang/invoke/MethodHandle" ∧ yX3_restFrom.cls ≠ "java/lang/invoke/VarHandle" ∧ (parseMethodDescriptor yX3_restFrom.desc).map (fun d => d.parameters.length) = some 2 := by decide +kernel
set_option maxRecDepth 100000 in
set_option maxHeartbeats 4000000 in
theorem M_X3_restFrom (l : Launch) : MtS l yX3_restFrom (Cond.code yX3_restFrom cX3_restFrom 4 none :: WALL) { frames := 2, cells := 0, slots := 0, locals := 47 } [13, 0, 0] none T_X3_restFrom := by
  refine MtS.mk (B := E_X3_restFrom) (by decide +kernel) (by decide) (fun _ _ _ hh => hh) ?_
  intro X Q e1 e2 e3 hC hN hT
  subst e1
  have hC : CF X cX3_restFrom RX3 WALL := hC
  have S_92 : ∀ (k2 : xK), SdS X 2 [(0, 13), (1, 0), (2, 0), (3, 0)] [] k2 → SdS X 92 [(0, 13), (1, 0), (2, 0), (3, 0)] [] (B_X3_restFrom_92 Q k2) := by
    intro k2 h2
    unfold B_X3_restFrom_92
    refine su_iinc (Γ' := [(0, 13), (1, 0), (2, 0), (3, 0)]) hC dX3_restFrom_92 (by decide) (by rw [e2]; decide) (by decide) (?_ : SdS X 95 [(0, 13), (1, 0), (2, 0), (3, 0)] [] _)
    refine su_goto (tgt := 2) hC dX3_restFrom_95 rfl (?_ : SdS X 2 [(0, 13), (1, 0), (2, 0), (3, 0)] [] _)
    exact SdS.weak (by decide) h2
  have S_91 : ∀ (k2 : xK), SdS X 2 [(0, 13), (1, 0), (2, 0), (3, 0)] [] k2 → SdS X 91 [(0, 13), (1, 0), (2, 0), (3, 0)] [0, 0, 100] (B_X3_restFrom_91 Q k2) := by
    intro k2 h2
    unfold B_X3_restFrom_91
    refine su_iastore hC dX3_restFrom_91 (?_ : SdS X 92 [(0, 13), (1, 0), (2, 0), (3, 0)] [] _)
    exact SdS.weak (by decide) (S_92 k2 h2)
  have S_75 : ∀ (k2 : xK), SdS X 2 [(0, 13), (1, 0), (2, 0), (3, 0)] [] k2 → SdS X 75 [(0, 13), (1, 0), (2, 0), (3, 0)] [0, 100] (B_X3_restFrom_75 Q k2) := by
    intro k2 h2
    unfold B_X3_restFrom_75
    refine su_ldc hC wl_3_188 dX3_restFrom_75 ⟨by decide, by decide⟩ (?_ : SdS X 77 [(0, 13), (1, 0), (2, 0), (3, 0)] [0, 0, 100] _)
    refine su_goto (tgt := 91) hC dX3_restFrom_77 rfl (?_ : SdS X 91 [(0, 13), (1, 0), (2, 0), (3, 0)] [0, 0, 100] _)
    exact SdS.weak (by decide) (S_91 k2 h2)
  have S_2 : SdS X 2 [(0, 13), (1, 0), (2, 0), (3, 0)] [] (L_X3_restFrom_2 Q) := by
    unfold L_X3_restFrom_2
    refine SdS.loop (fun k2 h2 => ?_)
    refine su_iload_n hC dX3_restFrom_2 rfl (by decide) (?_ : SdS X 3 [(0, 13), (1, 0), (2, 0), (3, 0)] [0] _)
    refine su_aload_n hC 13 dX3_restFrom_3 rfl (by decide) (by decide) (?_ : SdS X 4 [(0, 13), (1, 0), (2, 0), (3, 0)] [13, 0] _)
    refine su_getR hC (ci := 3) (j := 0) (C := RX3) (T := TX3) (N := 6) rfl rfl (by decide) in_X3 wl_1_206 rfl dX3_restFrom_4 (?_ : SdS X 7 [(0, 13), (1, 0), (2, 0), (3, 0)] [11, 0] _)
    refine su_getF hC (ci := 1) (j := 1) (C := RX1) (T := TX1) (N := 12) rfl rfl (by decide) in_X1 wl_1_84 rfl dX3_restFrom_7 (?_ : SdS X 10 [(0, 13), (1, 0), (2, 0), (3, 0)] [0, 0] _)
    refine su_icmp_ge (tgt := 98) hC dX3_restFrom_10 rfl (?_ : SdS X 98 [(0, 13), (1, 0), (2, 0), (3, 0)] [] _) (?_ : SdS X 13 [(0, 13), (1, 0), (2, 0), (3, 0)] [] _)
    · exact su_return hC hT dX3_restFrom_98
    · refine su_aload_n hC 13 dX3_restFrom_13 rfl (by decide) (by decide) (?_ : SdS X 14 [(0, 13), (1, 0), (2, 0), (3, 0)] [13] _)
      refine su_getR hC (ci := 3) (j := 0) (C := RX3) (T := TX3) (N := 6) rfl rfl (by decide) in_X3 wl_1_206 rfl dX3_restFrom_14 (?_ : SdS X 17 [(0, 13), (1, 0), (2, 0), (3, 0)] [11] _)
      refine su_getR hC (ci := 1) (j := 6) (C := RX1) (T := TX1) (N := 12) rfl rfl (by decide) in_X1 wl_1_105 rfl dX3_restFrom_17 (?_ : SdS X 20 [(0, 13), (1, 0), (2, 0), (3, 0)] [200] _)
      refine su_iload_n hC dX3_restFrom_20 rfl (by decide) (?_ : SdS X 21 [(0, 13), (1, 0), (2, 0), (3, 0)] [0, 200] _)
      refine su_aaload (e := 100) hC (List.mem_of_getElem? (i := 7) rfl) rfl rfl rfl dX3_restFrom_21 (?_ : SdS X 22 [(0, 13), (1, 0), (2, 0), (3, 0)] [100] _)
      refine su_iconst hC dX3_restFrom_22 ⟨by decide, by decide⟩ (?_ : SdS X 23 [(0, 13), (1, 0), (2, 0), (3, 0)] [0, 100] _)
      refine su_iaload hC dX3_restFrom_23 (?_ : SdS X 24 [(0, 13), (1, 0), (2, 0), (3, 0)] [0] _)
      refine su_iload_n hC dX3_restFrom_24 rfl (by decide) (?_ : SdS X 25 [(0, 13), (1, 0), (2, 0), (3, 0)] [0, 0] _)
      refine su_icmp_ne (tgt := 92) hC dX3_restFrom_25 rfl (?_ : SdS X 92 [(0, 13), (1, 0), (2, 0), (3, 0)] [] _) (?_ : SdS X 28 [(0, 13), (1, 0), (2, 0), (3, 0)] [] _)
      · exact SdS.weak (by decide) (S_92 k2 h2)
      · refine su_aload_n hC 13 dX3_restFrom_28 rfl (by decide) (by decide) (?_ : SdS X 29 [(0, 13), (1, 0), (2, 0), (3, 0)] [13] _)
        refine su_getR hC (ci := 3) (j := 5) (C := RX3) (T := TX3) (N := 6) rfl rfl (by decide) in_X3 wl_1_211 rfl dX3_restFrom_29 (?_ : SdS X 32 [(0, 13), (1, 0), (2, 0), (3, 0)] [100] _)
        refine su_iload_n hC dX3_restFrom_32 rfl (by decide) (?_ : SdS X 33 [(0, 13), (1, 0), (2, 0), (3, 0)] [0, 100] _)
        refine su_aload_n hC 13 dX3_restFrom_33 rfl (by decide) (by decide) (?_ : SdS X 34 [(0, 13), (1, 0), (2, 0), (3, 0)] [13, 0, 100] _)
        refine su_iload_n hC dX3_restFrom_34 rfl (by decide) (?_ : SdS X 35 [(0, 13), (1, 0), (2, 0), (3, 0)] [0, 13, 0, 100] _)
        refine su_aload_n hC 13 dX3_restFrom_35 rfl (by decide) (by decide) (?_ : SdS X 36 [(0, 13), (1, 0), (2, 0), (3, 0)] [13, 0, 13, 0, 100] _)
        refine su_getR hC (ci := 3) (j := 0) (C := RX3) (T := TX3) (N := 6) rfl rfl (by decide) in_X3 wl_1_206 rfl dX3_restFrom_36 (?_ : SdS X 39 [(0, 13), (1, 0), (2, 0), (3, 0)] [11, 0, 13, 0, 100] _)
        refine su_getR hC (ci := 1) (j := 6) (C := RX1) (T := TX1) (N := 12) rfl rfl (by decide) in_X1 wl_1_105 rfl dX3_restFrom_39 (?_ : SdS X 42 [(0, 13), (1, 0), (2, 0), (3, 0)] [200, 0, 13, 0, 100] _)
        refine su_iload_n hC dX3_restFrom_42 rfl (by decide) (?_ : SdS X 43 [(0, 13), (1, 0), (2, 0), (3, 0)] [0, 200, 0, 13, 0, 100] _)
        refine su_aaload (e := 100) hC (List.mem_of_getElem? (i := 7) rfl) rfl rfl rfl dX3_restFrom_43 (?_ : SdS X 44 [(0, 13), (1, 0), (2, 0), (3, 0)] [100, 0, 13, 0, 100] _)
        refine su_iconst hC dX3_restFrom_44 ⟨by decide, by decide⟩ (?_ : SdS X 45 [(0, 13), (1, 0), (2, 0), (3, 0)] [0, 100, 0, 13, 0, 100] _)
        refine su_iaload hC dX3_restFrom_45 (?_ : SdS X 46 [(0, 13), (1, 0), (2, 0), (3, 0)] [0, 0, 13, 0, 100] _)
        refine su_inv0 (τ := [0, 100]) (τr := [0, 0]) (ci := 3) (q := (RX3, TX3, 6)) hC WG (M_X3_firstBest _) rfl rfl rfl rfl  rfl rfl wl_3_204 wl_3_206 wp_31 wl_1_5 wl_3_207 hd_X3_firstBest (by rw [e3]; decide) (by decide) dX3_restFrom_46 (?_ : SdS X 49 [(0, 13), (1, 0), (2, 0), (3, 0)] [0, 0, 100] _)
        refine su_iastore hC dX3_restFrom_49 (?_ : SdS X 50 [(0, 13), (1, 0), (2, 0), (3, 0)] [] _)
        refine su_aload_n hC 13 dX3_restFrom_50 rfl (by decide) (by decide) (?_ : SdS X 51 [(0, 13), (1, 0), (2, 0), (3, 0)] [13] _)
        refine su_getR hC (ci := 3) (j := 4) (C := RX3) (T := TX3) (N := 6) rfl rfl (by decide) in_X3 wl_1_210 rfl dX3_restFrom_51 (?_ : SdS X 54 [(0, 13), (1, 0), (2, 0), (3, 0)] [100] _)
        refine su_iload_n hC dX3_restFrom_54 rfl (by decide) (?_ : SdS X 55 [(0, 13), (1, 0), (2, 0), (3, 0)] [0, 100] _)
        refine su_aload_n hC 13 dX3_restFrom_55 rfl (by decide) (by decide) (?_ : SdS X 56 [(0, 13), (1, 0), (2, 0), (3, 0)] [13, 0, 100] _)
        refine su_getR hC (ci := 3) (j := 3) (C := RX3) (T := TX3) (N := 6) rfl rfl (by decide) in_X3 wl_1_209 rfl dX3_restFrom_56 (?_ : SdS X 59 [(0, 13), (1, 0), (2, 0), (3, 0)] [100, 0, 100] _)
        refine su_iload_n hC dX3_restFrom_59 rfl (by decide) (?_ : SdS X 60 [(0, 13), (1, 0), (2, 0), (3, 0)] [0, 100, 0, 100] _)
        refine su_iaload hC dX3_restFrom_60 (?_ : SdS X 61 [(0, 13), (1, 0), (2, 0), (3, 0)] [0, 0, 100] _)
        refine su_ldc hC wl_3_188 dX3_restFrom_61 ⟨by decide, by decide⟩ (?_ : SdS X 63 [(0, 13), (1, 0), (2, 0), (3, 0)] [0, 0, 0, 100] _)
        refine su_icmp_ge (tgt := 75) hC dX3_restFrom_63 rfl (?_ : SdS X 75 [(0, 13), (1, 0), (2, 0), (3, 0)] [0, 100] _) (?_ : SdS X 66 [(0, 13), (1, 0), (2, 0), (3, 0)] [0, 100] _)
        · exact SdS.weak (by decide) (S_75 k2 h2)
        · refine su_aload_n hC 13 dX3_restFrom_66 rfl (by decide) (by decide) (?_ : SdS X 67 [(0, 13), (1, 0), (2, 0), (3, 0)] [13, 0, 100] _)
          refine su_getF hC (ci := 3) (j := 2) (C := RX3) (T := TX3) (N := 6) rfl rfl (by decide) in_X3 wl_1_208 rfl dX3_restFrom_67 (?_ : SdS X 70 [(0, 13), (1, 0), (2, 0), (3, 0)] [0, 0, 100] _)
          refine su_ldc hC wl_3_188 dX3_restFrom_70 ⟨by decide, by decide⟩ (?_ : SdS X 72 [(0, 13), (1, 0), (2, 0), (3, 0)] [0, 0, 0, 100] _)
          refine su_icmp_lt (tgt := 80) hC dX3_restFrom_72 rfl (?_ : SdS X 80 [(0, 13), (1, 0), (2, 0), (3, 0)] [0, 100] _) (?_ : SdS X 75 [(0, 13), (1, 0), (2, 0), (3, 0)] [0, 100] _)
          · refine su_aload_n hC 13 dX3_restFrom_80 rfl (by decide) (by decide) (?_ : SdS X 81 [(0, 13), (1, 0), (2, 0), (3, 0)] [13, 0, 100] _)
            refine su_getR hC (ci := 3) (j := 3) (C := RX3) (T := TX3) (N := 6) rfl rfl (by decide) in_X3 wl_1_209 rfl dX3_restFrom_81 (?_ : SdS X 84 [(0, 13), (1, 0), (2, 0), (3, 0)] [100, 0, 100] _)
            refine su_iload_n hC dX3_restFrom_84 rfl (by decide) (?_ : SdS X 85 [(0, 13), (1, 0), (2, 0), (3, 0)] [0, 100, 0, 100] _)
            refine su_iaload hC dX3_restFrom_85 (?_ : SdS X 86 [(0, 13), (1, 0), (2, 0), (3, 0)] [0, 0, 100] _)
            refine su_aload_n hC 13 dX3_restFrom_86 rfl (by decide) (by decide) (?_ : SdS X 87 [(0, 13), (1, 0), (2, 0), (3, 0)] [13, 0, 0, 100] _)
            refine su_getF hC (ci := 3) (j := 2) (C := RX3) (T := TX3) (N := 6) rfl rfl (by decide) in_X3 wl_1_208 rfl dX3_restFrom_87 (?_ : SdS X 90 [(0, 13), (1, 0), (2, 0), (3, 0)] [0, 0, 0, 100] _)
            refine su_iadd hC dX3_restFrom_90 (?_ : SdS X 91 [(0, 13), (1, 0), (2, 0), (3, 0)] [0, 0, 100] _)
            exact SdS.weak (by decide) (S_91 k2 h2)
          · exact SdS.weak (by decide) (S_75 k2 h2)
  refine (?_ : SdS X 0 [(0, 13), (1, 0), (2, 0)] [] (E_X3_restFrom Q))
  unfold E_X3_restFrom
  refine su_iconst hC dX3_restFrom_0 ⟨by decide, by decide⟩ (?_ : SdS X 1 [(0, 13), (1, 0), (2, 0)] [0] _)
  refine su_istore_n (Γ' := [(0, 13), (1, 0), (2, 0), (3, 0)]) hC dX3_restFrom_1 rfl (by rw [e2]; decide) (by decide) (?_ : SdS X 2 [(0, 13), (1, 0), (2, 0), (3, 0)] [] _)
  exact SdS.weak (by decide) (S_2)
theorem wl_1_207 : Cond.fieldLink RX3 77 "NarrowRings$Finder" "first" "I" ∈ WALL := tb1 (List.mem_of_getElem? (i := 207) rfl) rfl
theorem wl_3_196 : Cond.methodLink RX3 99 yX3_restFromLast ∈ WALL := tb3 (List.mem_of_getElem? (i := 196) rfl) rfl
theorem wl_3_198 : Cond.instanceMethod yX3_restFromLast ∈ WALL := tb3 (List.mem_of_getElem? (i := 198) rfl) rfl
theorem wp_29 : Cond.selects RX3 yX3_restFromLast yX3_restFromLast ∈ WALL := tbS (List.mem_of_getElem? (i := 29) rfl)
theorem wl_3_199 : Cond.code yX3_restFromLast cX3_restFromLast 4 none ∈ WALL := tb3 (List.mem_of_getElem? (i := 199) rfl) rfl
theorem wl_3_200 : Cond.methodLink RX3 103 yX3_restFrom ∈ WALL := tb3 (List.mem_of_getElem? (i := 200) rfl) rfl
theorem wl_3_202 : Cond.instanceMethod yX3_restFrom ∈ WALL := tb3 (List.mem_of_getElem? (i := 202) rfl) rfl
theorem wp_30 : Cond.selects RX3 yX3_restFrom yX3_restFrom ∈ WALL := tbS (List.mem_of_getElem? (i := 30) rfl)
theorem wl_3_203 : Cond.code yX3_restFrom cX3_restFrom 4 none ∈ WALL := tb3 (List.mem_of_getElem? (i := 203) rfl) rfl
theorem hd_X3_costOf : yX3_costOf.cls ≠ "java/lang/invoke/MethodHandle" ∧ yX3_costOf.cls ≠ "java/lang/invoke/VarHandle" ∧ (parseMethodDescriptor yX3_costOf.desc).map (fun d => d.parameters.length) = some 1 := by decide +kernel
set_option maxRecDepth 100000 in
set_option maxHeartbeats 4000000 in
theorem M_X3_costOf (l : Launch) : MtS l yX3_costOf (Cond.code yX3_costOf cX3_costOf 9 (some .int) :: WALL) { frames := 3, cells := 0, slots := 0, locals := 70 } [13, 100] (some 0) T_X3_costOf := by
  refine MtS.mk (B := E_X3_costOf) (by decide +kernel) (by decide) (fun _ _ _ hh => hh) ?_
  intro X Q e1 e2 e3 hC hN hT
  subst e1
  have hC : CF X cX3_costOf RX3 WALL := hC
  have S_84 : SdS X 84 [(0, 13), (1, 100), (2, 0), (3, 0), (4, 0), (5, 0), (6, 0), (7, 0), (8, 0)] [] (L_X3_costOf_84 Q) := by
    unfold L_X3_costOf_84
    refine SdS.loop (fun k84 h84 => ?_)
    refine su_iload hC dX3_costOf_84 (by decide) (?_ : SdS X 86 [(0, 13), (1, 100), (2, 0), (3, 0), (4, 0), (5, 0), (6, 0), (7, 0), (8, 0)] [0] _)
    refine su_iload hC dX3_costOf_86 (by decide) (?_ : SdS X 88 [(0, 13), (1, 100), (2, 0), (3, 0), (4, 0), (5, 0), (6, 0), (7, 0), (8, 0)] [0, 0] _)
    refine su_iload hC dX3_costOf_88 (by decide) (?_ : SdS X 90 [(0, 13), (1, 100), (2, 0), (3, 0), (4, 0), (5, 0), (6, 0), (7, 0), (8, 0)] [0, 0, 0] _)
    refine su_isub hC dX3_costOf_90 (?_ : SdS X 91 [(0, 13), (1, 100), (2, 0), (3, 0), (4, 0), (5, 0), (6, 0), (7, 0), (8, 0)] [0, 0] _)
    refine su_iload hC dX3_costOf_91 (by decide) (?_ : SdS X 93 [(0, 13), (1, 100), (2, 0), (3, 0), (4, 0), (5, 0), (6, 0), (7, 0), (8, 0)] [0, 0, 0] _)
    refine su_imul hC dX3_costOf_93 (?_ : SdS X 94 [(0, 13), (1, 100), (2, 0), (3, 0), (4, 0), (5, 0), (6, 0), (7, 0), (8, 0)] [0, 0] _)
    refine su_icmp_gt (tgt := 125) hC dX3_costOf_94 rfl (?_ : SdS X 125 [(0, 13), (1, 100), (2, 0), (3, 0), (4, 0), (5, 0), (6, 0), (7, 0), (8, 0)] [] _) (?_ : SdS X 97 [(0, 13), (1, 100), (2, 0), (3, 0), (4, 0), (5, 0), (6, 0), (7, 0), (8, 0)] [] _)
    · refine su_aload_n hC 13 dX3_costOf_125 rfl (by decide) (by decide) (?_ : SdS X 126 [(0, 13), (1, 100), (2, 0), (3, 0), (4, 0), (5, 0), (6, 0), (7, 0), (8, 0)] [13] _)
      refine su_aload_n hC 13 dX3_costOf_126 rfl (by decide) (by decide) (?_ : SdS X 127 [(0, 13), (1, 100), (2, 0), (3, 0), (4, 0), (5, 0), (6, 0), (7, 0), (8, 0)] [13, 13] _)
      refine su_iload hC dX3_costOf_127 (by decide) (?_ : SdS X 129 [(0, 13), (1, 100), (2, 0), (3, 0), (4, 0), (5, 0), (6, 0), (7, 0), (8, 0)] [0, 13, 13] _)
      refine su_iload hC dX3_costOf_129 (by decide) (?_ : SdS X 131 [(0, 13), (1, 100), (2, 0), (3, 0), (4, 0), (5, 0), (6, 0), (7, 0), (8, 0)] [0, 0, 13, 13] _)
      refine su_inv0 (τ := [13]) (τr := [0, 0]) (ci := 3) (q := (RX3, TX3, 6)) hC WG (M_X3_firstBest _) rfl rfl rfl rfl  rfl rfl wl_3_204 wl_3_206 wp_31 wl_1_5 wl_3_207 hd_X3_firstBest (by rw [e3]; decide) (by decide) dX3_costOf_131 (?_ : SdS X 134 [(0, 13), (1, 100), (2, 0), (3, 0), (4, 0), (5, 0), (6, 0), (7, 0), (8, 0)] [0, 13] _)
      refine su_putF hC (ci := 3) (j := 1) (C := RX3) (T := TX3) (N := 6) tyX3 tyX3_ok nmX3 rfl rfl (by decide) in_X3 rfl rfl wl_1_207 rfl dX3_costOf_134 (?_ : SdS X 137 [(0, 13), (1, 100), (2, 0), (3, 0), (4, 0), (5, 0), (6, 0), (7, 0), (8, 0)] [] _)
      refine su_aload_n hC 13 dX3_costOf_137 rfl (by decide) (by decide) (?_ : SdS X 138 [(0, 13), (1, 100), (2, 0), (3, 0), (4, 0), (5, 0), (6, 0), (7, 0), (8, 0)] [13] _)
      refine su_getF hC (ci := 3) (j := 2) (C := RX3) (T := TX3) (N := 6) rfl rfl (by decide) in_X3 wl_1_208 rfl dX3_costOf_138 (?_ : SdS X 141 [(0, 13), (1, 100), (2, 0), (3, 0), (4, 0), (5, 0), (6, 0), (7, 0), (8, 0)] [0] _)
      exact su_ireturn hC hT dX3_costOf_141
    · refine su_aload_n hC 13 dX3_costOf_97 rfl (by decide) (by decide) (?_ : SdS X 98 [(0, 13), (1, 100), (2, 0), (3, 0), (4, 0), (5, 0), (6, 0), (7, 0), (8, 0)] [13] _)
      refine su_iload hC dX3_costOf_98 (by decide) (?_ : SdS X 100 [(0, 13), (1, 100), (2, 0), (3, 0), (4, 0), (5, 0), (6, 0), (7, 0), (8, 0)] [0, 13] _)
      refine su_iload hC dX3_costOf_100 (by decide) (?_ : SdS X 102 [(0, 13), (1, 100), (2, 0), (3, 0), (4, 0), (5, 0), (6, 0), (7, 0), (8, 0)] [0, 0, 13] _)
      refine su_iload hC dX3_costOf_102 (by decide) (?_ : SdS X 104 [(0, 13), (1, 100), (2, 0), (3, 0), (4, 0), (5, 0), (6, 0), (7, 0), (8, 0)] [0, 0, 0, 13] _)
      refine su_imul hC dX3_costOf_104 (?_ : SdS X 105 [(0, 13), (1, 100), (2, 0), (3, 0), (4, 0), (5, 0), (6, 0), (7, 0), (8, 0)] [0, 0, 13] _)
      refine su_isub hC dX3_costOf_105 (?_ : SdS X 106 [(0, 13), (1, 100), (2, 0), (3, 0), (4, 0), (5, 0), (6, 0), (7, 0), (8, 0)] [0, 13] _)
      refine su_iload hC dX3_costOf_106 (by decide) (?_ : SdS X 108 [(0, 13), (1, 100), (2, 0), (3, 0), (4, 0), (5, 0), (6, 0), (7, 0), (8, 0)] [0, 0, 13] _)
      refine su_iload hC dX3_costOf_108 (by decide) (?_ : SdS X 110 [(0, 13), (1, 100), (2, 0), (3, 0), (4, 0), (5, 0), (6, 0), (7, 0), (8, 0)] [0, 0, 0, 13] _)
      refine su_iconst hC dX3_costOf_110 ⟨by decide, by decide⟩ (?_ : SdS X 111 [(0, 13), (1, 100), (2, 0), (3, 0), (4, 0), (5, 0), (6, 0), (7, 0), (8, 0)] [0, 0, 0, 0, 13] _)
      refine su_isub hC dX3_costOf_111 (?_ : SdS X 112 [(0, 13), (1, 100), (2, 0), (3, 0), (4, 0), (5, 0), (6, 0), (7, 0), (8, 0)] [0, 0, 0, 13] _)
      refine su_iload hC dX3_costOf_112 (by decide) (?_ : SdS X 114 [(0, 13), (1, 100), (2, 0), (3, 0), (4, 0), (5, 0), (6, 0), (7, 0), (8, 0)] [0, 0, 0, 0, 13] _)
      refine su_imul hC dX3_costOf_114 (?_ : SdS X 115 [(0, 13), (1, 100), (2, 0), (3, 0), (4, 0), (5, 0), (6, 0), (7, 0), (8, 0)] [0, 0, 0, 13] _)
      refine su_isub hC dX3_costOf_115 (?_ : SdS X 116 [(0, 13), (1, 100), (2, 0), (3, 0), (4, 0), (5, 0), (6, 0), (7, 0), (8, 0)] [0, 0, 13] _)
      refine su_inv0v (τ := []) (τr := [0, 0]) (ci := 3) (q := (RX3, TX3, 6)) hC WG (M_X3_restFrom _) rfl rfl rfl rfl  rfl rfl wl_3_200 wl_3_202 wp_30 wl_1_5 wl_3_203 hd_X3_restFrom (by rw [e3]; decide) (by decide) dX3_costOf_116 (?_ : SdS X 119 [(0, 13), (1, 100), (2, 0), (3, 0), (4, 0), (5, 0), (6, 0), (7, 0), (8, 0)] [] _)
      refine su_iinc (Γ' := [(0, 13), (1, 100), (2, 0), (3, 0), (4, 0), (5, 0), (6, 0), (7, 0), (8, 0)]) hC dX3_costOf_119 (by decide) (by rw [e2]; decide) (by decide) (?_ : SdS X 122 [(0, 13), (1, 100), (2, 0), (3, 0), (4, 0), (5, 0), (6, 0), (7, 0), (8, 0)] [] _)
      refine su_goto (tgt := 84) hC dX3_costOf_122 rfl (?_ : SdS X 84 [(0, 13), (1, 100), (2, 0), (3, 0), (4, 0), (5, 0), (6, 0), (7, 0), (8, 0)] [] _)
      exact SdS.weak (by decide) h84
  have S_70 : SdS X 70 [(0, 13), (1, 100), (2, 0), (3, 0), (4, 0), (5, 0), (6, 0)] [0] (B_X3_costOf_70 Q) := by
    unfold B_X3_costOf_70
    refine su_istore (Γ' := [(0, 13), (1, 100), (2, 0), (3, 0), (4, 0), (5, 0), (6, 0), (7, 0)]) hC dX3_costOf_70 (by rw [e2]; decide) (by decide) (?_ : SdS X 72 [(0, 13), (1, 100), (2, 0), (3, 0), (4, 0), (5, 0), (6, 0), (7, 0)] [] _)
    refine su_aload_n hC 13 dX3_costOf_72 rfl (by decide) (by decide) (?_ : SdS X 73 [(0, 13), (1, 100), (2, 0), (3, 0), (4, 0), (5, 0), (6, 0), (7, 0)] [13] _)
    refine su_iload hC dX3_costOf_73 (by decide) (?_ : SdS X 75 [(0, 13), (1, 100), (2, 0), (3, 0), (4, 0), (5, 0), (6, 0), (7, 0)] [0, 13] _)
    refine su_aload_n hC 100 dX3_costOf_75 rfl (by decide) (by decide) (?_ : SdS X 76 [(0, 13), (1, 100), (2, 0), (3, 0), (4, 0), (5, 0), (6, 0), (7, 0)] [100, 0, 13] _)
    refine su_iconst hC dX3_costOf_76 ⟨by decide, by decide⟩ (?_ : SdS X 77 [(0, 13), (1, 100), (2, 0), (3, 0), (4, 0), (5, 0), (6, 0), (7, 0)] [0, 100, 0, 13] _)
    refine su_iaload hC dX3_costOf_77 (?_ : SdS X 78 [(0, 13), (1, 100), (2, 0), (3, 0), (4, 0), (5, 0), (6, 0), (7, 0)] [0, 0, 13] _)
    refine su_inv0v (τ := []) (τr := [0, 0]) (ci := 3) (q := (RX3, TX3, 6)) hC WG (M_X3_restFromLast _) rfl rfl rfl rfl  rfl rfl wl_3_196 wl_3_198 wp_29 wl_1_5 wl_3_199 hd_X3_restFromLast (by rw [e3]; decide) (by decide) dX3_costOf_78 (?_ : SdS X 81 [(0, 13), (1, 100), (2, 0), (3, 0), (4, 0), (5, 0), (6, 0), (7, 0)] [] _)
    refine su_iconst hC dX3_costOf_81 ⟨by decide, by decide⟩ (?_ : SdS X 82 [(0, 13), (1, 100), (2, 0), (3, 0), (4, 0), (5, 0), (6, 0), (7, 0)] [0] _)
    refine su_istore (Γ' := [(0, 13), (1, 100), (2, 0), (3, 0), (4, 0), (5, 0), (6, 0), (7, 0), (8, 0)]) hC dX3_costOf_82 (by rw [e2]; decide) (by decide) (?_ : SdS X 84 [(0, 13), (1, 100), (2, 0), (3, 0), (4, 0), (5, 0), (6, 0), (7, 0), (8, 0)] [] _)
    exact SdS.weak (by decide) (S_84)
  have S_56 : SdS X 56 [(0, 13), (1, 100), (2, 0), (3, 0), (4, 0), (5, 0)] [0] (B_X3_costOf_56 Q) := by
    unfold B_X3_costOf_56
    refine su_istore (Γ' := [(0, 13), (1, 100), (2, 0), (3, 0), (4, 0), (5, 0), (6, 0)]) hC dX3_costOf_56 (by rw [e2]; decide) (by decide) (?_ : SdS X 58 [(0, 13), (1, 100), (2, 0), (3, 0), (4, 0), (5, 0), (6, 0)] [] _)
    refine su_iload hC dX3_costOf_58 (by decide) (?_ : SdS X 60 [(0, 13), (1, 100), (2, 0), (3, 0), (4, 0), (5, 0), (6, 0)] [0] _)
    refine su_if_le (tgt := 69) hC dX3_costOf_60 rfl (?_ : SdS X 69 [(0, 13), (1, 100), (2, 0), (3, 0), (4, 0), (5, 0), (6, 0)] [] _) (?_ : SdS X 63 [(0, 13), (1, 100), (2, 0), (3, 0), (4, 0), (5, 0), (6, 0)] [] _)
    · refine su_iload_n hC dX3_costOf_69 rfl (by decide) (?_ : SdS X 70 [(0, 13), (1, 100), (2, 0), (3, 0), (4, 0), (5, 0), (6, 0)] [0] _)
      exact SdS.weak (by decide) (S_70)
    · refine su_iload_n hC dX3_costOf_63 rfl (by decide) (?_ : SdS X 64 [(0, 13), (1, 100), (2, 0), (3, 0), (4, 0), (5, 0), (6, 0)] [0] _)
      refine su_iconst hC dX3_costOf_64 ⟨by decide, by decide⟩ (?_ : SdS X 65 [(0, 13), (1, 100), (2, 0), (3, 0), (4, 0), (5, 0), (6, 0)] [0, 0] _)
      refine su_isub hC dX3_costOf_65 (?_ : SdS X 66 [(0, 13), (1, 100), (2, 0), (3, 0), (4, 0), (5, 0), (6, 0)] [0] _)
      refine su_goto (tgt := 70) hC dX3_costOf_66 rfl (?_ : SdS X 70 [(0, 13), (1, 100), (2, 0), (3, 0), (4, 0), (5, 0), (6, 0)] [0] _)
      exact SdS.weak (by decide) (S_70)
  have S_42 : SdS X 42 [(0, 13), (1, 100), (2, 0), (3, 0), (4, 0)] [0] (B_X3_costOf_42 Q) := by
    unfold B_X3_costOf_42
    refine su_istore (Γ' := [(0, 13), (1, 100), (2, 0), (3, 0), (4, 0), (5, 0)]) hC dX3_costOf_42 (by rw [e2]; decide) (by decide) (?_ : SdS X 44 [(0, 13), (1, 100), (2, 0), (3, 0), (4, 0), (5, 0)] [] _)
    refine su_iload hC dX3_costOf_44 (by decide) (?_ : SdS X 46 [(0, 13), (1, 100), (2, 0), (3, 0), (4, 0), (5, 0)] [0] _)
    refine su_if_le (tgt := 53) hC dX3_costOf_46 rfl (?_ : SdS X 53 [(0, 13), (1, 100), (2, 0), (3, 0), (4, 0), (5, 0)] [] _) (?_ : SdS X 49 [(0, 13), (1, 100), (2, 0), (3, 0), (4, 0), (5, 0)] [] _)
    · refine su_iload_n hC dX3_costOf_53 rfl (by decide) (?_ : SdS X 54 [(0, 13), (1, 100), (2, 0), (3, 0), (4, 0), (5, 0)] [0] _)
      refine su_iconst hC dX3_costOf_54 ⟨by decide, by decide⟩ (?_ : SdS X 55 [(0, 13), (1, 100), (2, 0), (3, 0), (4, 0), (5, 0)] [0, 0] _)
      refine su_isub hC dX3_costOf_55 (?_ : SdS X 56 [(0, 13), (1, 100), (2, 0), (3, 0), (4, 0), (5, 0)] [0] _)
      exact SdS.weak (by decide) (S_56)
    · refine su_iload_n hC dX3_costOf_49 rfl (by decide) (?_ : SdS X 50 [(0, 13), (1, 100), (2, 0), (3, 0), (4, 0), (5, 0)] [0] _)
      refine su_goto (tgt := 56) hC dX3_costOf_50 rfl (?_ : SdS X 56 [(0, 13), (1, 100), (2, 0), (3, 0), (4, 0), (5, 0)] [0] _)
      exact SdS.weak (by decide) (S_56)
  refine (?_ : SdS X 0 [(0, 13), (1, 100)] [] (E_X3_costOf Q))
  unfold E_X3_costOf
  refine su_aload_n hC 100 dX3_costOf_0 rfl (by decide) (by decide) (?_ : SdS X 1 [(0, 13), (1, 100)] [100] _)
  refine su_iconst hC dX3_costOf_1 ⟨by decide, by decide⟩ (?_ : SdS X 2 [(0, 13), (1, 100)] [0, 100] _)
  refine su_iaload hC dX3_costOf_2 (?_ : SdS X 3 [(0, 13), (1, 100)] [0] _)
  refine su_istore_n (Γ' := [(0, 13), (1, 100), (2, 0)]) hC dX3_costOf_3 rfl (by rw [e2]; decide) (by decide) (?_ : SdS X 4 [(0, 13), (1, 100), (2, 0)] [] _)
  refine su_aload_n hC 100 dX3_costOf_4 rfl (by decide) (by decide) (?_ : SdS X 5 [(0, 13), (1, 100), (2, 0)] [100] _)
  refine su_iconst hC dX3_costOf_5 ⟨by decide, by decide⟩ (?_ : SdS X 6 [(0, 13), (1, 100), (2, 0)] [0, 100] _)
  refine su_iaload hC dX3_costOf_6 (?_ : SdS X 7 [(0, 13), (1, 100), (2, 0)] [0] _)
  refine su_istore_n (Γ' := [(0, 13), (1, 100), (2, 0), (3, 0)]) hC dX3_costOf_7 rfl (by rw [e2]; decide) (by decide) (?_ : SdS X 8 [(0, 13), (1, 100), (2, 0), (3, 0)] [] _)
  refine su_aload_n hC 100 dX3_costOf_8 rfl (by decide) (by decide) (?_ : SdS X 9 [(0, 13), (1, 100), (2, 0), (3, 0)] [100] _)
  refine su_iconst hC dX3_costOf_9 ⟨by decide, by decide⟩ (?_ : SdS X 10 [(0, 13), (1, 100), (2, 0), (3, 0)] [0, 100] _)
  refine su_iaload hC dX3_costOf_10 (?_ : SdS X 11 [(0, 13), (1, 100), (2, 0), (3, 0)] [0] _)
  refine su_istore (Γ' := [(0, 13), (1, 100), (2, 0), (3, 0), (4, 0)]) hC dX3_costOf_11 (by rw [e2]; decide) (by decide) (?_ : SdS X 13 [(0, 13), (1, 100), (2, 0), (3, 0), (4, 0)] [] _)
  refine su_aload_n hC 13 dX3_costOf_13 rfl (by decide) (by decide) (?_ : SdS X 14 [(0, 13), (1, 100), (2, 0), (3, 0), (4, 0)] [13] _)
  refine su_iconst hC dX3_costOf_14 ⟨by decide, by decide⟩ (?_ : SdS X 15 [(0, 13), (1, 100), (2, 0), (3, 0), (4, 0)] [0, 13] _)
  refine su_putF hC (ci := 3) (j := 1) (C := RX3) (T := TX3) (N := 6) tyX3 tyX3_ok nmX3 rfl rfl (by decide) in_X3 rfl rfl wl_1_207 rfl dX3_costOf_15 (?_ : SdS X 18 [(0, 13), (1, 100), (2, 0), (3, 0), (4, 0)] [] _)
  refine su_iload_n hC dX3_costOf_18 rfl (by decide) (?_ : SdS X 19 [(0, 13), (1, 100), (2, 0), (3, 0), (4, 0)] [0] _)
  refine su_iload_n hC dX3_costOf_19 rfl (by decide) (?_ : SdS X 20 [(0, 13), (1, 100), (2, 0), (3, 0), (4, 0)] [0, 0] _)
  refine su_icmp_ne (tgt := 32) hC dX3_costOf_20 rfl (?_ : SdS X 32 [(0, 13), (1, 100), (2, 0), (3, 0), (4, 0)] [] _) (?_ : SdS X 23 [(0, 13), (1, 100), (2, 0), (3, 0), (4, 0)] [] _)
  · refine su_iload_n hC dX3_costOf_32 rfl (by decide) (?_ : SdS X 33 [(0, 13), (1, 100), (2, 0), (3, 0), (4, 0)] [0] _)
    refine su_iload_n hC dX3_costOf_33 rfl (by decide) (?_ : SdS X 34 [(0, 13), (1, 100), (2, 0), (3, 0), (4, 0)] [0, 0] _)
    refine su_icmp_le (tgt := 41) hC dX3_costOf_34 rfl (?_ : SdS X 41 [(0, 13), (1, 100), (2, 0), (3, 0), (4, 0)] [] _) (?_ : SdS X 37 [(0, 13), (1, 100), (2, 0), (3, 0), (4, 0)] [] _)
    · refine su_iconst hC dX3_costOf_41 ⟨by decide, by decide⟩ (?_ : SdS X 42 [(0, 13), (1, 100), (2, 0), (3, 0), (4, 0)] [0] _)
      exact SdS.weak (by decide) (S_42)
    · refine su_iconst hC dX3_costOf_37 ⟨by decide, by decide⟩ (?_ : SdS X 38 [(0, 13), (1, 100), (2, 0), (3, 0), (4, 0)] [0] _)
      refine su_goto (tgt := 42) hC dX3_costOf_38 rfl (?_ : SdS X 42 [(0, 13), (1, 100), (2, 0), (3, 0), (4, 0)] [0] _)
      exact SdS.weak (by decide) (S_42)
  · refine su_iload hC dX3_costOf_23 (by decide) (?_ : SdS X 25 [(0, 13), (1, 100), (2, 0), (3, 0), (4, 0)] [0] _)
    refine su_aload_n hC 100 dX3_costOf_25 rfl (by decide) (by decide) (?_ : SdS X 26 [(0, 13), (1, 100), (2, 0), (3, 0), (4, 0)] [100, 0] _)
    refine su_iconst hC dX3_costOf_26 ⟨by decide, by decide⟩ (?_ : SdS X 27 [(0, 13), (1, 100), (2, 0), (3, 0), (4, 0)] [0, 100, 0] _)
    refine su_iaload hC dX3_costOf_27 (?_ : SdS X 28 [(0, 13), (1, 100), (2, 0), (3, 0), (4, 0)] [0, 0] _)
    refine su_invs (τ := []) (τs := [0, 0]) hC true "NarrowRings" WG (M_X8_apart _) rfl rfl rfl rfl (by decide) wl_3_194 wl_1_1 wl_3_195 hd_X8_apart (by rw [e3]; decide) (by decide) dX3_costOf_28 (?_ : SdS X 31 [(0, 13), (1, 100), (2, 0), (3, 0), (4, 0)] [0] _)
    exact su_ireturn hC hT dX3_costOf_31
theorem wl_1_205 : Cond.methodLink RX3 3 Lib.objectInit ∈ WALL := tb1 (List.mem_of_getElem? (i := 205) rfl) rfl
theorem hd_X3_init : yX3_init.cls ≠ "java/lang/invoke/MethodHandle" ∧ yX3_init.cls ≠ "java/lang/invoke/VarHandle" ∧ (parseMethodDescriptor yX3_init.desc).map (fun d => d.parameters.length) = some 1 := by decide +kernel
set_option maxRecDepth 100000 in
set_option maxHeartbeats 4000000 in
theorem M_X3_init (l : Launch) : MtS l yX3_init (Cond.code yX3_init cX3_init 2 none :: WALL) { frames := 1, cells := 3, slots := 33, locals := 20 } [13, 11] none T_X3_init := by
  refine MtS.mk (B := E_X3_init) (by decide +kernel) (by decide) (fun _ _ _ hh => hh) ?_
  intro X Q e1 e2 e3 hC hN hT
  subst e1
  have hC : CF X cX3_init RX3 WALL := hC
  refine (?_ : SdS X 0 [(0, 13), (1, 11)] [] (E_X3_init Q))
  unfold E_X3_init
  refine su_aload_n hC 13 dX3_init_0 rfl (by decide) (by decide) (?_ : SdS X 1 [(0, 13), (1, 11)] [13] _)
  refine su_objInit hC (by decide) wl_1_205 wl_1_29 wl_1_30 (by rw [e3]; decide) (by decide) dX3_init_1 (?_ : SdS X 4 [(0, 13), (1, 11)] [] _)
  refine su_aload_n hC 13 dX3_init_4 rfl (by decide) (by decide) (?_ : SdS X 5 [(0, 13), (1, 11)] [13] _)
  refine su_aload_n hC 11 dX3_init_5 rfl (by decide) (by decide) (?_ : SdS X 6 [(0, 13), (1, 11)] [11, 13] _)
  refine su_putR hC (ci := 3) (j := 0) (C := RX3) (T := TX3) (N := 6) tyX3 tyX3_ok nmX3 rfl rfl (by decide) in_X3 rfl rfl wl_1_206 rfl dX3_init_6 (?_ : SdS X 9 [(0, 13), (1, 11)] [] _)
  refine su_aload_n hC 13 dX3_init_9 rfl (by decide) (by decide) (?_ : SdS X 10 [(0, 13), (1, 11)] [13] _)
  refine su_bipush hC dX3_init_10 (by decide) (?_ : SdS X 12 [(0, 13), (1, 11)] [0, 13] _)
  refine su_newa hC (atype := .int) (e := 0) (List.mem_of_getElem? (i := 0) rfl) (fun C z => by cases z) rfl (by decide) wl_1_76 (by rw [e3]) (by rw [e3]) dX3_init_12 (?_ : SdS X 14 [(0, 13), (1, 11)] [100, 13] _)
  refine su_putRF hC (ci := 3) (j := 3) (C := RX3) (T := TX3) (N := 6) tyX3 tyX3_ok nmX3 rfl rfl (by decide) in_X3 rfl rfl rfl hN wl_1_209 rfl dX3_init_14 (?_ : SdS X 17 [(0, 13), (1, 11)] [] _)
  refine su_aload_n hC 13 dX3_init_17 rfl (by decide) (by decide) (?_ : SdS X 18 [(0, 13), (1, 11)] [13] _)
  refine su_bipush hC dX3_init_18 (by decide) (?_ : SdS X 20 [(0, 13), (1, 11)] [0, 13] _)
  refine su_newa hC (atype := .int) (e := 0) (List.mem_of_getElem? (i := 0) rfl) (fun C z => by cases z) rfl (by decide) wl_1_76 (by rw [e3]) (by rw [e3]) dX3_init_20 (?_ : SdS X 22 [(0, 13), (1, 11)] [100, 13] _)
  refine su_putRF hC (ci := 3) (j := 4) (C := RX3) (T := TX3) (N := 6) tyX3 tyX3_ok nmX3 rfl rfl (by decide) in_X3 rfl rfl rfl hN wl_1_210 rfl dX3_init_22 (?_ : SdS X 25 [(0, 13), (1, 11)] [] _)
  refine su_aload_n hC 13 dX3_init_25 rfl (by decide) (by decide) (?_ : SdS X 26 [(0, 13), (1, 11)] [13] _)
  refine su_bipush hC dX3_init_26 (by decide) (?_ : SdS X 28 [(0, 13), (1, 11)] [0, 13] _)
  refine su_newa hC (atype := .int) (e := 0) (List.mem_of_getElem? (i := 0) rfl) (fun C z => by cases z) rfl (by decide) wl_1_76 (by rw [e3]) (by rw [e3]) dX3_init_28 (?_ : SdS X 30 [(0, 13), (1, 11)] [100, 13] _)
  refine su_putRF hC (ci := 3) (j := 5) (C := RX3) (T := TX3) (N := 6) tyX3 tyX3_ok nmX3 rfl rfl (by decide) in_X3 rfl rfl rfl hN wl_1_211 rfl dX3_init_30 (?_ : SdS X 33 [(0, 13), (1, 11)] [] _)
  exact su_return hC hT dX3_init_33
theorem wl_1_232 : Cond.fieldLink RX7 15 "NarrowRings$Way" "found" "Z" ∈ WALL := tb1 (List.mem_of_getElem? (i := 232) rfl) rfl
theorem wl_1_238 : Cond.fieldLink RX7 19 "NarrowRings$Way" "pay" "I" ∈ WALL := tb1 (List.mem_of_getElem? (i := 238) rfl) rfl
theorem wl_2_1 : Cond.fieldLink RX7 23 "NarrowRings$Way" "hours" "I" ∈ WALL := tb2 (List.mem_of_getElem? (i := 1) rfl) rfl
theorem hd_X7_isBeatenBy : yX7_isBeatenBy.cls ≠ "java/lang/invoke/MethodHandle" ∧ yX7_isBeatenBy.cls ≠ "java/lang/invoke/VarHandle" ∧ (parseMethodDescriptor yX7_isBeatenBy.desc).map (fun d => d.parameters.length) = some 2 := by decide +kernel
set_option maxRecDepth 100000 in
set_option maxHeartbeats 4000000 in
theorem M_X7_isBeatenBy (l : Launch) : MtS l yX7_isBeatenBy (Cond.code yX7_isBeatenBy cX7_isBeatenBy 3 (some .boolean) :: WALL) { frames := 0, cells := 0, slots := 0, locals := 0 } [17, 0, 0] (some 0) T_X7_isBeatenBy := by
  refine MtS.mk (B := E_X7_isBeatenBy) (by decide +kernel) (by decide) (fun _ _ _ hh => hh) ?_
  intro X Q e1 e2 e3 hC hN hT
  subst e1
  have hC : CF X cX7_isBeatenBy RX7 WALL := hC
  have S_36 : SdS X 36 [(0, 17), (1, 0), (2, 0)] [0] (B_X7_isBeatenBy_36 Q) := by
    unfold B_X7_isBeatenBy_36
    exact su_zreturn hC hT dX7_isBeatenBy_36
  have S_31 : SdS X 31 [(0, 17), (1, 0), (2, 0)] [] (B_X7_isBeatenBy_31 Q) := by
    unfold B_X7_isBeatenBy_31
    refine su_iconst hC dX7_isBeatenBy_31 ⟨by decide, by decide⟩ (?_ : SdS X 32 [(0, 17), (1, 0), (2, 0)] [0] _)
    refine su_goto (tgt := 36) hC dX7_isBeatenBy_32 rfl (?_ : SdS X 36 [(0, 17), (1, 0), (2, 0)] [0] _)
    exact SdS.weak (by decide) (S_36)
  have S_35 : SdS X 35 [(0, 17), (1, 0), (2, 0)] [] (B_X7_isBeatenBy_35 Q) := by
    unfold B_X7_isBeatenBy_35
    refine su_iconst hC dX7_isBeatenBy_35 ⟨by decide, by decide⟩ (?_ : SdS X 36 [(0, 17), (1, 0), (2, 0)] [0] _)
    exact SdS.weak (by decide) (S_36)
  refine (?_ : SdS X 0 [(0, 17), (1, 0), (2, 0)] [] (E_X7_isBeatenBy Q))
  unfold E_X7_isBeatenBy
  refine su_aload_n hC 17 dX7_isBeatenBy_0 rfl (by decide) (by decide) (?_ : SdS X 1 [(0, 17), (1, 0), (2, 0)] [17] _)
  refine su_getF hC (ci := 7) (j := 0) (C := RX7) (T := TX7) (N := 7) rfl rfl (by decide) in_X7 wl_1_232 rfl dX7_isBeatenBy_1 (?_ : SdS X 4 [(0, 17), (1, 0), (2, 0)] [0] _)
  refine su_if_eq (tgt := 31) hC dX7_isBeatenBy_4 rfl (?_ : SdS X 31 [(0, 17), (1, 0), (2, 0)] [] _) (?_ : SdS X 7 [(0, 17), (1, 0), (2, 0)] [] _)
  · exact SdS.weak (by decide) (S_31)
  · refine su_iload_n hC dX7_isBeatenBy_7 rfl (by decide) (?_ : SdS X 8 [(0, 17), (1, 0), (2, 0)] [0] _)
    refine su_aload_n hC 17 dX7_isBeatenBy_8 rfl (by decide) (by decide) (?_ : SdS X 9 [(0, 17), (1, 0), (2, 0)] [17, 0] _)
    refine su_getF hC (ci := 7) (j := 2) (C := RX7) (T := TX7) (N := 7) rfl rfl (by decide) in_X7 wl_1_238 rfl dX7_isBeatenBy_9 (?_ : SdS X 12 [(0, 17), (1, 0), (2, 0)] [0, 0] _)
    refine su_icmp_lt (tgt := 31) hC dX7_isBeatenBy_12 rfl (?_ : SdS X 31 [(0, 17), (1, 0), (2, 0)] [] _) (?_ : SdS X 15 [(0, 17), (1, 0), (2, 0)] [] _)
    · exact SdS.weak (by decide) (S_31)
    · refine su_iload_n hC dX7_isBeatenBy_15 rfl (by decide) (?_ : SdS X 16 [(0, 17), (1, 0), (2, 0)] [0] _)
      refine su_aload_n hC 17 dX7_isBeatenBy_16 rfl (by decide) (by decide) (?_ : SdS X 17 [(0, 17), (1, 0), (2, 0)] [17, 0] _)
      refine su_getF hC (ci := 7) (j := 2) (C := RX7) (T := TX7) (N := 7) rfl rfl (by decide) in_X7 wl_1_238 rfl dX7_isBeatenBy_17 (?_ : SdS X 20 [(0, 17), (1, 0), (2, 0)] [0, 0] _)
      refine su_icmp_ne (tgt := 35) hC dX7_isBeatenBy_20 rfl (?_ : SdS X 35 [(0, 17), (1, 0), (2, 0)] [] _) (?_ : SdS X 23 [(0, 17), (1, 0), (2, 0)] [] _)
      · exact SdS.weak (by decide) (S_35)
      · refine su_iload_n hC dX7_isBeatenBy_23 rfl (by decide) (?_ : SdS X 24 [(0, 17), (1, 0), (2, 0)] [0] _)
        refine su_aload_n hC 17 dX7_isBeatenBy_24 rfl (by decide) (by decide) (?_ : SdS X 25 [(0, 17), (1, 0), (2, 0)] [17, 0] _)
        refine su_getF hC (ci := 7) (j := 3) (C := RX7) (T := TX7) (N := 7) rfl rfl (by decide) in_X7 wl_2_1 rfl dX7_isBeatenBy_25 (?_ : SdS X 28 [(0, 17), (1, 0), (2, 0)] [0, 0] _)
        refine su_icmp_ge (tgt := 35) hC dX7_isBeatenBy_28 rfl (?_ : SdS X 35 [(0, 17), (1, 0), (2, 0)] [] _) (?_ : SdS X 31 [(0, 17), (1, 0), (2, 0)] [] _)
        · exact SdS.weak (by decide) (S_35)
        · exact SdS.weak (by decide) (S_31)
theorem wl_1_54 : Cond.fieldLink RX3 37 "NarrowRings$Thing" "loads" "I" ∈ WALL := tb1 (List.mem_of_getElem? (i := 54) rfl) rfl
theorem wl_3_212 : Cond.methodLink RX3 60 yX7_isBeatenBy ∈ WALL := tb3 (List.mem_of_getElem? (i := 212) rfl) rfl
theorem wl_3_213 : Cond.instanceMethod yX7_isBeatenBy ∈ WALL := tb3 (List.mem_of_getElem? (i := 213) rfl) rfl
theorem wl_3_214 : Cond.selects RX7 yX7_isBeatenBy yX7_isBeatenBy ∈ WALL := tb3 (List.mem_of_getElem? (i := 214) rfl) rfl
theorem wl_1_6 : Cond.initialized RX7 ∈ WALL := tb1 (List.mem_of_getElem? (i := 6) rfl) rfl
theorem wl_3_215 : Cond.code yX7_isBeatenBy cX7_isBeatenBy 3 (some .boolean) ∈ WALL := tb3 (List.mem_of_getElem? (i := 215) rfl) rfl
theorem wl_1_233 : Cond.fieldLink RX3 27 "NarrowRings$Way" "found" "Z" ∈ WALL := tb1 (List.mem_of_getElem? (i := 233) rfl) rfl
theorem wl_1_236 : Cond.fieldLink RX3 64 "NarrowRings$Way" "cut" "Z" ∈ WALL := tb1 (List.mem_of_getElem? (i := 236) rfl) rfl
theorem wl_1_239 : Cond.fieldLink RX3 67 "NarrowRings$Way" "pay" "I" ∈ WALL := tb1 (List.mem_of_getElem? (i := 239) rfl) rfl
theorem wl_2_2 : Cond.fieldLink RX3 70 "NarrowRings$Way" "hours" "I" ∈ WALL := tb2 (List.mem_of_getElem? (i := 2) rfl) rfl
theorem wl_2_5 : Cond.fieldLink RX3 73 "NarrowRings$Way" "loads" "I" ∈ WALL := tb2 (List.mem_of_getElem? (i := 5) rfl) rfl
theorem wl_2_7 : Cond.fieldLink RX3 74 "NarrowRings$Way" "gates" "I" ∈ WALL := tb2 (List.mem_of_getElem? (i := 7) rfl) rfl
theorem wl_2_11 : Cond.fieldLink RX3 80 "NarrowRings$Way" "gate" "[I" ∈ WALL := tb2 (List.mem_of_getElem? (i := 11) rfl) rfl
theorem hd_X3_keepIfBest : yX3_keepIfBest.cls ≠ "java/lang/invoke/MethodHandle" ∧ yX3_keepIfBest.cls ≠ "java/lang/invoke/VarHandle" ∧ (parseMethodDescriptor yX3_keepIfBest.desc).map (fun d => d.parameters.length) = some 4 := by decide +kernel
set_option maxRecDepth 100000 in
set_option maxHeartbeats 4000000 in
theorem M_X3_keepIfBest (l : Launch) : MtS l yX3_keepIfBest (Cond.code yX3_keepIfBest cX3_keepIfBest 8 none :: WALL) { frames := 1, cells := 0, slots := 0, locals := 22 } [13, 16, 0, 0, 17] none T_X3_keepIfBest := by
  refine MtS.mk (B := E_X3_keepIfBest) (by decide +kernel) (by decide) (fun _ _ _ hh => hh) ?_
  intro X Q e1 e2 e3 hC hN hT
  subst e1
  have hC : CF X cX3_keepIfBest RX3 WALL := hC
  have S_37 : SdS X 37 [(0, 13), (1, 16), (2, 0), (3, 0), (4, 17), (5, 0), (6, 0)] [] (B_X3_keepIfBest_37 Q) := by
    unfold B_X3_keepIfBest_37
    exact su_return hC hT dX3_keepIfBest_37
  have S_141 : SdS X 141 [(0, 13), (1, 16), (2, 0), (3, 0), (4, 17), (5, 0), (6, 0), (7, 0)] [] (B_X3_keepIfBest_141 Q) := by
    unfold B_X3_keepIfBest_141
    exact su_return hC hT dX3_keepIfBest_141
  have S_85 : SdS X 85 [(0, 13), (1, 16), (2, 0), (3, 0), (4, 17), (5, 0), (6, 0), (7, 0)] [] (L_X3_keepIfBest_85 Q) := by
    unfold L_X3_keepIfBest_85
    refine SdS.loop (fun k85 h85 => ?_)
    refine su_iload hC dX3_keepIfBest_85 (by decide) (?_ : SdS X 87 [(0, 13), (1, 16), (2, 0), (3, 0), (4, 17), (5, 0), (6, 0), (7, 0)] [0] _)
    refine su_iconst hC dX3_keepIfBest_87 ⟨by decide, by decide⟩ (?_ : SdS X 88 [(0, 13), (1, 16), (2, 0), (3, 0), (4, 17), (5, 0), (6, 0), (7, 0)] [0, 0] _)
    refine su_icmp_eq (tgt := 141) hC dX3_keepIfBest_88 rfl (?_ : SdS X 141 [(0, 13), (1, 16), (2, 0), (3, 0), (4, 17), (5, 0), (6, 0), (7, 0)] [] _) (?_ : SdS X 91 [(0, 13), (1, 16), (2, 0), (3, 0), (4, 17), (5, 0), (6, 0), (7, 0)] [] _)
    · exact SdS.weak (by decide) (S_141)
    · refine su_aload hC 17 dX3_keepIfBest_91 (by decide) (by decide) (?_ : SdS X 93 [(0, 13), (1, 16), (2, 0), (3, 0), (4, 17), (5, 0), (6, 0), (7, 0)] [17] _)
      refine su_getF hC (ci := 7) (j := 5) (C := RX7) (T := TX7) (N := 7) rfl rfl (by decide) in_X7 wl_2_7 rfl dX3_keepIfBest_93 (?_ : SdS X 96 [(0, 13), (1, 16), (2, 0), (3, 0), (4, 17), (5, 0), (6, 0), (7, 0)] [0] _)
      refine su_aload hC 17 dX3_keepIfBest_96 (by decide) (by decide) (?_ : SdS X 98 [(0, 13), (1, 16), (2, 0), (3, 0), (4, 17), (5, 0), (6, 0), (7, 0)] [17, 0] _)
      refine su_getR hC (ci := 7) (j := 6) (C := RX7) (T := TX7) (N := 7) rfl rfl (by decide) in_X7 wl_2_11 rfl dX3_keepIfBest_98 (?_ : SdS X 101 [(0, 13), (1, 16), (2, 0), (3, 0), (4, 17), (5, 0), (6, 0), (7, 0)] [100, 0] _)
      refine su_alen (e := 0) hC (List.mem_of_getElem? (i := 0) rfl) dX3_keepIfBest_101 (?_ : SdS X 102 [(0, 13), (1, 16), (2, 0), (3, 0), (4, 17), (5, 0), (6, 0), (7, 0)] [0, 0] _)
      refine su_icmp_ge (tgt := 141) hC dX3_keepIfBest_102 rfl (?_ : SdS X 141 [(0, 13), (1, 16), (2, 0), (3, 0), (4, 17), (5, 0), (6, 0), (7, 0)] [] _) (?_ : SdS X 105 [(0, 13), (1, 16), (2, 0), (3, 0), (4, 17), (5, 0), (6, 0), (7, 0)] [] _)
      · exact SdS.weak (by decide) (S_141)
      · refine su_aload hC 17 dX3_keepIfBest_105 (by decide) (by decide) (?_ : SdS X 107 [(0, 13), (1, 16), (2, 0), (3, 0), (4, 17), (5, 0), (6, 0), (7, 0)] [17] _)
        refine su_getR hC (ci := 7) (j := 6) (C := RX7) (T := TX7) (N := 7) rfl rfl (by decide) in_X7 wl_2_11 rfl dX3_keepIfBest_107 (?_ : SdS X 110 [(0, 13), (1, 16), (2, 0), (3, 0), (4, 17), (5, 0), (6, 0), (7, 0)] [100] _)
        refine su_aload hC 17 dX3_keepIfBest_110 (by decide) (by decide) (?_ : SdS X 112 [(0, 13), (1, 16), (2, 0), (3, 0), (4, 17), (5, 0), (6, 0), (7, 0)] [17, 100] _)
        refine su_getF hC (ci := 7) (j := 5) (C := RX7) (T := TX7) (N := 7) rfl rfl (by decide) in_X7 wl_2_7 rfl dX3_keepIfBest_112 (?_ : SdS X 115 [(0, 13), (1, 16), (2, 0), (3, 0), (4, 17), (5, 0), (6, 0), (7, 0)] [0, 100] _)
        refine su_iload hC dX3_keepIfBest_115 (by decide) (?_ : SdS X 117 [(0, 13), (1, 16), (2, 0), (3, 0), (4, 17), (5, 0), (6, 0), (7, 0)] [0, 0, 100] _)
        refine su_iastore hC dX3_keepIfBest_117 (?_ : SdS X 118 [(0, 13), (1, 16), (2, 0), (3, 0), (4, 17), (5, 0), (6, 0), (7, 0)] [] _)
        refine su_aload hC 17 dX3_keepIfBest_118 (by decide) (by decide) (?_ : SdS X 120 [(0, 13), (1, 16), (2, 0), (3, 0), (4, 17), (5, 0), (6, 0), (7, 0)] [17] _)
        refine su_dup hC (by decide) dX3_keepIfBest_120 (?_ : SdS X 121 [(0, 13), (1, 16), (2, 0), (3, 0), (4, 17), (5, 0), (6, 0), (7, 0)] [17, 17] _)
        refine su_getF hC (ci := 7) (j := 5) (C := RX7) (T := TX7) (N := 7) rfl rfl (by decide) in_X7 wl_2_7 rfl dX3_keepIfBest_121 (?_ : SdS X 124 [(0, 13), (1, 16), (2, 0), (3, 0), (4, 17), (5, 0), (6, 0), (7, 0)] [0, 17] _)
        refine su_iconst hC dX3_keepIfBest_124 ⟨by decide, by decide⟩ (?_ : SdS X 125 [(0, 13), (1, 16), (2, 0), (3, 0), (4, 17), (5, 0), (6, 0), (7, 0)] [0, 0, 17] _)
        refine su_iadd hC dX3_keepIfBest_125 (?_ : SdS X 126 [(0, 13), (1, 16), (2, 0), (3, 0), (4, 17), (5, 0), (6, 0), (7, 0)] [0, 17] _)
        refine su_putF hC (ci := 7) (j := 5) (C := RX7) (T := TX7) (N := 7) tyX7 tyX7_ok nmX7 rfl rfl (by decide) in_X7 rfl rfl wl_2_7 rfl dX3_keepIfBest_126 (?_ : SdS X 129 [(0, 13), (1, 16), (2, 0), (3, 0), (4, 17), (5, 0), (6, 0), (7, 0)] [] _)
        refine su_aload_n hC 13 dX3_keepIfBest_129 rfl (by decide) (by decide) (?_ : SdS X 130 [(0, 13), (1, 16), (2, 0), (3, 0), (4, 17), (5, 0), (6, 0), (7, 0)] [13] _)
        refine su_getR hC (ci := 3) (j := 5) (C := RX3) (T := TX3) (N := 6) rfl rfl (by decide) in_X3 wl_1_211 rfl dX3_keepIfBest_130 (?_ : SdS X 133 [(0, 13), (1, 16), (2, 0), (3, 0), (4, 17), (5, 0), (6, 0), (7, 0)] [100] _)
        refine su_iload hC dX3_keepIfBest_133 (by decide) (?_ : SdS X 135 [(0, 13), (1, 16), (2, 0), (3, 0), (4, 17), (5, 0), (6, 0), (7, 0)] [0, 100] _)
        refine su_iaload hC dX3_keepIfBest_135 (?_ : SdS X 136 [(0, 13), (1, 16), (2, 0), (3, 0), (4, 17), (5, 0), (6, 0), (7, 0)] [0] _)
        refine su_istore (Γ' := [(0, 13), (1, 16), (2, 0), (3, 0), (4, 17), (5, 0), (6, 0), (7, 0)]) hC dX3_keepIfBest_136 (by rw [e2]; decide) (by decide) (?_ : SdS X 138 [(0, 13), (1, 16), (2, 0), (3, 0), (4, 17), (5, 0), (6, 0), (7, 0)] [] _)
        refine su_goto (tgt := 85) hC dX3_keepIfBest_138 rfl (?_ : SdS X 85 [(0, 13), (1, 16), (2, 0), (3, 0), (4, 17), (5, 0), (6, 0), (7, 0)] [] _)
        exact SdS.weak (by decide) h85
  refine (?_ : SdS X 0 [(0, 13), (1, 16), (2, 0), (3, 0), (4, 17)] [] (E_X3_keepIfBest Q))
  unfold E_X3_keepIfBest
  refine su_iload_n hC dX3_keepIfBest_0 rfl (by decide) (?_ : SdS X 1 [(0, 13), (1, 16), (2, 0), (3, 0), (4, 17)] [0] _)
  refine su_sipush hC dX3_keepIfBest_1 (by decide) (?_ : SdS X 4 [(0, 13), (1, 16), (2, 0), (3, 0), (4, 17)] [0, 0] _)
  refine su_idiv hC dX3_keepIfBest_4 (?_ : SdS X 5 [(0, 13), (1, 16), (2, 0), (3, 0), (4, 17)] [0] _)
  refine su_aload_n hC 16 dX3_keepIfBest_5 rfl (by decide) (by decide) (?_ : SdS X 6 [(0, 13), (1, 16), (2, 0), (3, 0), (4, 17)] [16, 0] _)
  refine su_getF hC (ci := 6) (j := 4) (C := RX6) (T := TX6) (N := 7) rfl rfl (by decide) in_X6 wl_1_54 rfl dX3_keepIfBest_6 (?_ : SdS X 9 [(0, 13), (1, 16), (2, 0), (3, 0), (4, 17)] [0, 0] _)
  refine su_imul hC dX3_keepIfBest_9 (?_ : SdS X 10 [(0, 13), (1, 16), (2, 0), (3, 0), (4, 17)] [0] _)
  refine su_istore (Γ' := [(0, 13), (1, 16), (2, 0), (3, 0), (4, 17), (5, 0)]) hC dX3_keepIfBest_10 (by rw [e2]; decide) (by decide) (?_ : SdS X 12 [(0, 13), (1, 16), (2, 0), (3, 0), (4, 17), (5, 0)] [] _)
  refine su_iload_n hC dX3_keepIfBest_12 rfl (by decide) (?_ : SdS X 13 [(0, 13), (1, 16), (2, 0), (3, 0), (4, 17), (5, 0)] [0] _)
  refine su_sipush hC dX3_keepIfBest_13 (by decide) (?_ : SdS X 16 [(0, 13), (1, 16), (2, 0), (3, 0), (4, 17), (5, 0)] [0, 0] _)
  refine su_irem hC dX3_keepIfBest_16 (?_ : SdS X 17 [(0, 13), (1, 16), (2, 0), (3, 0), (4, 17), (5, 0)] [0] _)
  refine su_istore (Γ' := [(0, 13), (1, 16), (2, 0), (3, 0), (4, 17), (5, 0), (6, 0)]) hC dX3_keepIfBest_17 (by rw [e2]; decide) (by decide) (?_ : SdS X 19 [(0, 13), (1, 16), (2, 0), (3, 0), (4, 17), (5, 0), (6, 0)] [] _)
  refine su_iload_n hC dX3_keepIfBest_19 rfl (by decide) (?_ : SdS X 20 [(0, 13), (1, 16), (2, 0), (3, 0), (4, 17), (5, 0), (6, 0)] [0] _)
  refine su_ldc hC wl_3_188 dX3_keepIfBest_20 ⟨by decide, by decide⟩ (?_ : SdS X 22 [(0, 13), (1, 16), (2, 0), (3, 0), (4, 17), (5, 0), (6, 0)] [0, 0] _)
  refine su_icmp_ge (tgt := 37) hC dX3_keepIfBest_22 rfl (?_ : SdS X 37 [(0, 13), (1, 16), (2, 0), (3, 0), (4, 17), (5, 0), (6, 0)] [] _) (?_ : SdS X 25 [(0, 13), (1, 16), (2, 0), (3, 0), (4, 17), (5, 0), (6, 0)] [] _)
  · exact SdS.weak (by decide) (S_37)
  · refine su_aload hC 17 dX3_keepIfBest_25 (by decide) (by decide) (?_ : SdS X 27 [(0, 13), (1, 16), (2, 0), (3, 0), (4, 17), (5, 0), (6, 0)] [17] _)
    refine su_iload hC dX3_keepIfBest_27 (by decide) (?_ : SdS X 29 [(0, 13), (1, 16), (2, 0), (3, 0), (4, 17), (5, 0), (6, 0)] [0, 17] _)
    refine su_iload hC dX3_keepIfBest_29 (by decide) (?_ : SdS X 31 [(0, 13), (1, 16), (2, 0), (3, 0), (4, 17), (5, 0), (6, 0)] [0, 0, 17] _)
    refine su_inv0 (τ := []) (τr := [0, 0]) (ci := 7) (q := (RX7, TX7, 7)) hC WG (M_X7_isBeatenBy _) rfl rfl rfl rfl  rfl rfl wl_3_212 wl_3_213 wl_3_214 wl_1_6 wl_3_215 hd_X7_isBeatenBy (by rw [e3]; decide) (by decide) dX3_keepIfBest_31 (?_ : SdS X 34 [(0, 13), (1, 16), (2, 0), (3, 0), (4, 17), (5, 0), (6, 0)] [0] _)
    refine su_if_ne (tgt := 38) hC dX3_keepIfBest_34 rfl (?_ : SdS X 38 [(0, 13), (1, 16), (2, 0), (3, 0), (4, 17), (5, 0), (6, 0)] [] _) (?_ : SdS X 37 [(0, 13), (1, 16), (2, 0), (3, 0), (4, 17), (5, 0), (6, 0)] [] _)
    · refine su_aload hC 17 dX3_keepIfBest_38 (by decide) (by decide) (?_ : SdS X 40 [(0, 13), (1, 16), (2, 0), (3, 0), (4, 17), (5, 0), (6, 0)] [17] _)
      refine su_iconst hC dX3_keepIfBest_40 ⟨by decide, by decide⟩ (?_ : SdS X 41 [(0, 13), (1, 16), (2, 0), (3, 0), (4, 17), (5, 0), (6, 0)] [0, 17] _)
      refine su_putz hC (ci := 7) (j := 0) (C := RX7) (T := TX7) (N := 7) tyX7 tyX7_ok nmX7 rfl rfl (by decide) in_X7 rfl rfl rfl wl_1_233 rfl dX3_keepIfBest_41 (?_ : SdS X 44 [(0, 13), (1, 16), (2, 0), (3, 0), (4, 17), (5, 0), (6, 0)] [] _)
      refine su_aload hC 17 dX3_keepIfBest_44 (by decide) (by decide) (?_ : SdS X 46 [(0, 13), (1, 16), (2, 0), (3, 0), (4, 17), (5, 0), (6, 0)] [17] _)
      refine su_iload_n hC dX3_keepIfBest_46 rfl (by decide) (?_ : SdS X 47 [(0, 13), (1, 16), (2, 0), (3, 0), (4, 17), (5, 0), (6, 0)] [0, 17] _)
      refine su_putz hC (ci := 7) (j := 1) (C := RX7) (T := TX7) (N := 7) tyX7 tyX7_ok nmX7 rfl rfl (by decide) in_X7 rfl rfl rfl wl_1_236 rfl dX3_keepIfBest_47 (?_ : SdS X 50 [(0, 13), (1, 16), (2, 0), (3, 0), (4, 17), (5, 0), (6, 0)] [] _)
      refine su_aload hC 17 dX3_keepIfBest_50 (by decide) (by decide) (?_ : SdS X 52 [(0, 13), (1, 16), (2, 0), (3, 0), (4, 17), (5, 0), (6, 0)] [17] _)
      refine su_iload hC dX3_keepIfBest_52 (by decide) (?_ : SdS X 54 [(0, 13), (1, 16), (2, 0), (3, 0), (4, 17), (5, 0), (6, 0)] [0, 17] _)
      refine su_putF hC (ci := 7) (j := 2) (C := RX7) (T := TX7) (N := 7) tyX7 tyX7_ok nmX7 rfl rfl (by decide) in_X7 rfl rfl wl_1_239 rfl dX3_keepIfBest_54 (?_ : SdS X 57 [(0, 13), (1, 16), (2, 0), (3, 0), (4, 17), (5, 0), (6, 0)] [] _)
      refine su_aload hC 17 dX3_keepIfBest_57 (by decide) (by decide) (?_ : SdS X 59 [(0, 13), (1, 16), (2, 0), (3, 0), (4, 17), (5, 0), (6, 0)] [17] _)
      refine su_iload hC dX3_keepIfBest_59 (by decide) (?_ : SdS X 61 [(0, 13), (1, 16), (2, 0), (3, 0), (4, 17), (5, 0), (6, 0)] [0, 17] _)
      refine su_putF hC (ci := 7) (j := 3) (C := RX7) (T := TX7) (N := 7) tyX7 tyX7_ok nmX7 rfl rfl (by decide) in_X7 rfl rfl wl_2_2 rfl dX3_keepIfBest_61 (?_ : SdS X 64 [(0, 13), (1, 16), (2, 0), (3, 0), (4, 17), (5, 0), (6, 0)] [] _)
      refine su_aload hC 17 dX3_keepIfBest_64 (by decide) (by decide) (?_ : SdS X 66 [(0, 13), (1, 16), (2, 0), (3, 0), (4, 17), (5, 0), (6, 0)] [17] _)
      refine su_aload_n hC 16 dX3_keepIfBest_66 rfl (by decide) (by decide) (?_ : SdS X 67 [(0, 13), (1, 16), (2, 0), (3, 0), (4, 17), (5, 0), (6, 0)] [16, 17] _)
      refine su_getF hC (ci := 6) (j := 4) (C := RX6) (T := TX6) (N := 7) rfl rfl (by decide) in_X6 wl_1_54 rfl dX3_keepIfBest_67 (?_ : SdS X 70 [(0, 13), (1, 16), (2, 0), (3, 0), (4, 17), (5, 0), (6, 0)] [0, 17] _)
      refine su_putF hC (ci := 7) (j := 4) (C := RX7) (T := TX7) (N := 7) tyX7 tyX7_ok nmX7 rfl rfl (by decide) in_X7 rfl rfl wl_2_5 rfl dX3_keepIfBest_70 (?_ : SdS X 73 [(0, 13), (1, 16), (2, 0), (3, 0), (4, 17), (5, 0), (6, 0)] [] _)
      refine su_aload hC 17 dX3_keepIfBest_73 (by decide) (by decide) (?_ : SdS X 75 [(0, 13), (1, 16), (2, 0), (3, 0), (4, 17), (5, 0), (6, 0)] [17] _)
      refine su_iconst hC dX3_keepIfBest_75 ⟨by decide, by decide⟩ (?_ : SdS X 76 [(0, 13), (1, 16), (2, 0), (3, 0), (4, 17), (5, 0), (6, 0)] [0, 17] _)
      refine su_putF hC (ci := 7) (j := 5) (C := RX7) (T := TX7) (N := 7) tyX7 tyX7_ok nmX7 rfl rfl (by decide) in_X7 rfl rfl wl_2_7 rfl dX3_keepIfBest_76 (?_ : SdS X 79 [(0, 13), (1, 16), (2, 0), (3, 0), (4, 17), (5, 0), (6, 0)] [] _)
      refine su_aload_n hC 13 dX3_keepIfBest_79 rfl (by decide) (by decide) (?_ : SdS X 80 [(0, 13), (1, 16), (2, 0), (3, 0), (4, 17), (5, 0), (6, 0)] [13] _)
      refine su_getF hC (ci := 3) (j := 1) (C := RX3) (T := TX3) (N := 6) rfl rfl (by decide) in_X3 wl_1_207 rfl dX3_keepIfBest_80 (?_ : SdS X 83 [(0, 13), (1, 16), (2, 0), (3, 0), (4, 17), (5, 0), (6, 0)] [0] _)
      refine su_istore (Γ' := [(0, 13), (1, 16), (2, 0), (3, 0), (4, 17), (5, 0), (6, 0), (7, 0)]) hC dX3_keepIfBest_83 (by rw [e2]; decide) (by decide) (?_ : SdS X 85 [(0, 13), (1, 16), (2, 0), (3, 0), (4, 17), (5, 0), (6, 0), (7, 0)] [] _)
      exact SdS.weak (by decide) (S_85)
    · exact SdS.weak (by decide) (S_37)
theorem wl_3_161 : Cond.methodLink RX3 113 yX1_letsThrough ∈ WALL := tb3 (List.mem_of_getElem? (i := 161) rfl) rfl
theorem wl_3_178 : Cond.methodLink RX3 116 yX1_loadingPay ∈ WALL := tb3 (List.mem_of_getElem? (i := 178) rfl) rfl
theorem wl_3_179 : Cond.instanceMethod yX1_loadingPay ∈ WALL := tb3 (List.mem_of_getElem? (i := 179) rfl) rfl
theorem wl_3_180 : Cond.selects RX1 yX1_loadingPay yX1_loadingPay ∈ WALL := tb3 (List.mem_of_getElem? (i := 180) rfl) rfl
theorem wl_3_181 : Cond.code yX1_loadingPay cX1_loadingPay 3 (some .int) ∈ WALL := tb3 (List.mem_of_getElem? (i := 181) rfl) rfl
theorem wl_3_187 : Cond.methodLink RX3 120 yX1_loadingHours ∈ WALL := tb3 (List.mem_of_getElem? (i := 187) rfl) rfl
theorem hd_X3_priceGates : yX3_priceGates.cls ≠ "java/lang/invoke/MethodHandle" ∧ yX3_priceGates.cls ≠ "java/lang/invoke/VarHandle" ∧ (parseMethodDescriptor yX3_priceGates.desc).map (fun d => d.parameters.length) = some 1 := by decide +kernel
set_option maxRecDepth 100000 in
set_option maxHeartbeats 4000000 in
theorem M_X3_priceGates (l : Launch) : MtS l yX3_priceGates (Cond.code yX3_priceGates cX3_priceGates 4 none :: WALL) { frames := 3, cells := 0, slots := 0, locals := 74 } [13, 16] none T_X3_priceGates := by
  refine MtS.mk (B := E_X3_priceGates) (by decide +kernel) (by decide) (fun _ _ _ hh => hh) ?_
  intro X Q e1 e2 e3 hC hN hT
  subst e1
  have hC : CF X cX3_priceGates RX3 WALL := hC
  have S_60 : ∀ (k2 : xK), SdS X 2 [(0, 13), (1, 16), (2, 0)] [] k2 → SdS X 60 [(0, 13), (1, 16), (2, 0), (3, 0)] [0, 0, 100] (B_X3_priceGates_60 Q k2) := by
    intro k2 h2
    unfold B_X3_priceGates_60
    refine su_iastore hC dX3_priceGates_60 (?_ : SdS X 61 [(0, 13), (1, 16), (2, 0), (3, 0)] [] _)
    refine su_iinc (Γ' := [(0, 13), (1, 16), (2, 0), (3, 0)]) hC dX3_priceGates_61 (by decide) (by rw [e2]; decide) (by decide) (?_ : SdS X 64 [(0, 13), (1, 16), (2, 0), (3, 0)] [] _)
    refine su_goto (tgt := 2) hC dX3_priceGates_64 rfl (?_ : SdS X 2 [(0, 13), (1, 16), (2, 0), (3, 0)] [] _)
    exact SdS.weak (by decide) h2
  have S_2 : SdS X 2 [(0, 13), (1, 16), (2, 0)] [] (L_X3_priceGates_2 Q) := by
    unfold L_X3_priceGates_2
    refine SdS.loop (fun k2 h2 => ?_)
    refine su_iload_n hC dX3_priceGates_2 rfl (by decide) (?_ : SdS X 3 [(0, 13), (1, 16), (2, 0)] [0] _)
    refine su_aload_n hC 13 dX3_priceGates_3 rfl (by decide) (by decide) (?_ : SdS X 4 [(0, 13), (1, 16), (2, 0)] [13, 0] _)
    refine su_getR hC (ci := 3) (j := 0) (C := RX3) (T := TX3) (N := 6) rfl rfl (by decide) in_X3 wl_1_206 rfl dX3_priceGates_4 (?_ : SdS X 7 [(0, 13), (1, 16), (2, 0)] [11, 0] _)
    refine su_getF hC (ci := 1) (j := 1) (C := RX1) (T := TX1) (N := 12) rfl rfl (by decide) in_X1 wl_1_84 rfl dX3_priceGates_7 (?_ : SdS X 10 [(0, 13), (1, 16), (2, 0)] [0, 0] _)
    refine su_icmp_ge (tgt := 67) hC dX3_priceGates_10 rfl (?_ : SdS X 67 [(0, 13), (1, 16), (2, 0)] [] _) (?_ : SdS X 13 [(0, 13), (1, 16), (2, 0)] [] _)
    · exact su_return hC hT dX3_priceGates_67
    · refine su_aload_n hC 13 dX3_priceGates_13 rfl (by decide) (by decide) (?_ : SdS X 14 [(0, 13), (1, 16), (2, 0)] [13] _)
      refine su_getR hC (ci := 3) (j := 0) (C := RX3) (T := TX3) (N := 6) rfl rfl (by decide) in_X3 wl_1_206 rfl dX3_priceGates_14 (?_ : SdS X 17 [(0, 13), (1, 16), (2, 0)] [11] _)
      refine su_aload_n hC 16 dX3_priceGates_17 rfl (by decide) (by decide) (?_ : SdS X 18 [(0, 13), (1, 16), (2, 0)] [16, 11] _)
      refine su_iload_n hC dX3_priceGates_18 rfl (by decide) (?_ : SdS X 19 [(0, 13), (1, 16), (2, 0)] [0, 16, 11] _)
      refine su_inv0 (τ := []) (τr := [16, 0]) (ci := 1) (q := (RX1, TX1, 12)) hC WG (M_X1_letsThrough _) rfl rfl rfl rfl  rfl rfl wl_3_161 wl_3_162 wl_3_163 wl_1_2 wl_3_164 hd_X1_letsThrough (by rw [e3]; decide) (by decide) dX3_priceGates_19 (?_ : SdS X 22 [(0, 13), (1, 16), (2, 0)] [0] _)
      refine su_istore_n (Γ' := [(0, 13), (1, 16), (2, 0), (3, 0)]) hC dX3_priceGates_22 rfl (by rw [e2]; decide) (by decide) (?_ : SdS X 23 [(0, 13), (1, 16), (2, 0), (3, 0)] [] _)
      refine su_aload_n hC 13 dX3_priceGates_23 rfl (by decide) (by decide) (?_ : SdS X 24 [(0, 13), (1, 16), (2, 0), (3, 0)] [13] _)
      refine su_getR hC (ci := 3) (j := 3) (C := RX3) (T := TX3) (N := 6) rfl rfl (by decide) in_X3 wl_1_209 rfl dX3_priceGates_24 (?_ : SdS X 27 [(0, 13), (1, 16), (2, 0), (3, 0)] [100] _)
      refine su_iload_n hC dX3_priceGates_27 rfl (by decide) (?_ : SdS X 28 [(0, 13), (1, 16), (2, 0), (3, 0)] [0, 100] _)
      refine su_iload_n hC dX3_priceGates_28 rfl (by decide) (?_ : SdS X 29 [(0, 13), (1, 16), (2, 0), (3, 0)] [0, 0, 100] _)
      refine su_if_eq (tgt := 58) hC dX3_priceGates_29 rfl (?_ : SdS X 58 [(0, 13), (1, 16), (2, 0), (3, 0)] [0, 100] _) (?_ : SdS X 32 [(0, 13), (1, 16), (2, 0), (3, 0)] [0, 100] _)
      · refine su_ldc hC wl_3_188 dX3_priceGates_58 ⟨by decide, by decide⟩ (?_ : SdS X 60 [(0, 13), (1, 16), (2, 0), (3, 0)] [0, 0, 100] _)
        exact SdS.weak (by decide) (S_60 k2 h2)
      · refine su_aload_n hC 13 dX3_priceGates_32 rfl (by decide) (by decide) (?_ : SdS X 33 [(0, 13), (1, 16), (2, 0), (3, 0)] [13, 0, 100] _)
        refine su_getR hC (ci := 3) (j := 0) (C := RX3) (T := TX3) (N := 6) rfl rfl (by decide) in_X3 wl_1_206 rfl dX3_priceGates_33 (?_ : SdS X 36 [(0, 13), (1, 16), (2, 0), (3, 0)] [11, 0, 100] _)
        refine su_aload_n hC 16 dX3_priceGates_36 rfl (by decide) (by decide) (?_ : SdS X 37 [(0, 13), (1, 16), (2, 0), (3, 0)] [16, 11, 0, 100] _)
        refine su_iload_n hC dX3_priceGates_37 rfl (by decide) (?_ : SdS X 38 [(0, 13), (1, 16), (2, 0), (3, 0)] [0, 16, 11, 0, 100] _)
        refine su_inv0 (τ := [0, 100]) (τr := [16, 0]) (ci := 1) (q := (RX1, TX1, 12)) hC WG (M_X1_loadingPay _) rfl rfl rfl rfl  rfl rfl wl_3_178 wl_3_179 wl_3_180 wl_1_2 wl_3_181 hd_X1_loadingPay (by rw [e3]; decide) (by decide) dX3_priceGates_38 (?_ : SdS X 41 [(0, 13), (1, 16), (2, 0), (3, 0)] [0, 0, 100] _)
        refine su_sipush hC dX3_priceGates_41 (by decide) (?_ : SdS X 44 [(0, 13), (1, 16), (2, 0), (3, 0)] [0, 0, 0, 100] _)
        refine su_imul hC dX3_priceGates_44 (?_ : SdS X 45 [(0, 13), (1, 16), (2, 0), (3, 0)] [0, 0, 100] _)
        refine su_aload_n hC 13 dX3_priceGates_45 rfl (by decide) (by decide) (?_ : SdS X 46 [(0, 13), (1, 16), (2, 0), (3, 0)] [13, 0, 0, 100] _)
        refine su_getR hC (ci := 3) (j := 0) (C := RX3) (T := TX3) (N := 6) rfl rfl (by decide) in_X3 wl_1_206 rfl dX3_priceGates_46 (?_ : SdS X 49 [(0, 13), (1, 16), (2, 0), (3, 0)] [11, 0, 0, 100] _)
        refine su_aload_n hC 16 dX3_priceGates_49 rfl (by decide) (by decide) (?_ : SdS X 50 [(0, 13), (1, 16), (2, 0), (3, 0)] [16, 11, 0, 0, 100] _)
        refine su_iload_n hC dX3_priceGates_50 rfl (by decide) (?_ : SdS X 51 [(0, 13), (1, 16), (2, 0), (3, 0)] [0, 16, 11, 0, 0, 100] _)
        refine su_inv0 (τ := [0, 0, 100]) (τr := [16, 0]) (ci := 1) (q := (RX1, TX1, 12)) hC WG (M_X1_loadingHours _) rfl rfl rfl rfl  rfl rfl wl_3_187 wl_3_183 wl_3_184 wl_1_2 wl_3_185 hd_X1_loadingHours (by rw [e3]; decide) (by decide) dX3_priceGates_51 (?_ : SdS X 54 [(0, 13), (1, 16), (2, 0), (3, 0)] [0, 0, 0, 100] _)
        refine su_iadd hC dX3_priceGates_54 (?_ : SdS X 55 [(0, 13), (1, 16), (2, 0), (3, 0)] [0, 0, 100] _)
        refine su_goto (tgt := 60) hC dX3_priceGates_55 rfl (?_ : SdS X 60 [(0, 13), (1, 16), (2, 0), (3, 0)] [0, 0, 100] _)
        exact SdS.weak (by decide) (S_60 k2 h2)
  refine (?_ : SdS X 0 [(0, 13), (1, 16)] [] (E_X3_priceGates Q))
  unfold E_X3_priceGates
  refine su_iconst hC dX3_priceGates_0 ⟨by decide, by decide⟩ (?_ : SdS X 1 [(0, 13), (1, 16)] [0] _)
  refine su_istore_n (Γ' := [(0, 13), (1, 16), (2, 0)]) hC dX3_priceGates_1 rfl (by rw [e2]; decide) (by decide) (?_ : SdS X 2 [(0, 13), (1, 16), (2, 0)] [] _)
  exact SdS.weak (by decide) (S_2)
theorem wl_3_131 : Cond.methodLink RX3 33 yX1_thing ∈ WALL := tb3 (List.mem_of_getElem? (i := 131) rfl) rfl
theorem wl_3_135 : Cond.methodLink RX3 43 yX3_allBear ∈ WALL := tb3 (List.mem_of_getElem? (i := 135) rfl) rfl
theorem wl_3_137 : Cond.instanceMethod yX3_allBear ∈ WALL := tb3 (List.mem_of_getElem? (i := 137) rfl) rfl
theorem wp_26 : Cond.selects RX3 yX3_allBear yX3_allBear ∈ WALL := tbS (List.mem_of_getElem? (i := 26) rfl)
theorem wl_3_138 : Cond.code yX3_allBear cX3_allBear 5 (some .boolean) ∈ WALL := tb3 (List.mem_of_getElem? (i := 138) rfl) rfl
theorem wl_3_157 : Cond.methodLink RX3 47 yX3_priceGates ∈ WALL := tb3 (List.mem_of_getElem? (i := 157) rfl) rfl
theorem wl_3_159 : Cond.instanceMethod yX3_priceGates ∈ WALL := tb3 (List.mem_of_getElem? (i := 159) rfl) rfl
theorem wp_27 : Cond.selects RX3 yX3_priceGates yX3_priceGates ∈ WALL := tbS (List.mem_of_getElem? (i := 27) rfl)
theorem wl_3_160 : Cond.code yX3_priceGates cX3_priceGates 4 none ∈ WALL := tb3 (List.mem_of_getElem? (i := 160) rfl) rfl
theorem wl_3_189 : Cond.methodLink RX3 51 yX3_costOf ∈ WALL := tb3 (List.mem_of_getElem? (i := 189) rfl) rfl
theorem wl_3_191 : Cond.instanceMethod yX3_costOf ∈ WALL := tb3 (List.mem_of_getElem? (i := 191) rfl) rfl
theorem wp_28 : Cond.selects RX3 yX3_costOf yX3_costOf ∈ WALL := tbS (List.mem_of_getElem? (i := 28) rfl)
theorem wl_3_192 : Cond.code yX3_costOf cX3_costOf 9 (some .int) ∈ WALL := tb3 (List.mem_of_getElem? (i := 192) rfl) rfl
theorem wl_3_208 : Cond.methodLink RX3 55 yX3_keepIfBest ∈ WALL := tb3 (List.mem_of_getElem? (i := 208) rfl) rfl
theorem wl_3_210 : Cond.instanceMethod yX3_keepIfBest ∈ WALL := tb3 (List.mem_of_getElem? (i := 210) rfl) rfl
theorem wp_32 : Cond.selects RX3 yX3_keepIfBest yX3_keepIfBest ∈ WALL := tbS (List.mem_of_getElem? (i := 32) rfl)
theorem wl_3_211 : Cond.code yX3_keepIfBest cX3_keepIfBest 8 none ∈ WALL := tb3 (List.mem_of_getElem? (i := 211) rfl) rfl
theorem hd_X3_seek : yX3_seek.cls ≠ "java/lang/invoke/MethodHandle" ∧ yX3_seek.cls ≠ "java/lang/invoke/VarHandle" ∧ (parseMethodDescriptor yX3_seek.desc).map (fun d => d.parameters.length) = some 3 := by decide +kernel
set_option maxRecDepth 100000 in
set_option maxHeartbeats 4000000 in
theorem M_X3_seek (l : Launch) : MtS l yX3_seek (Cond.code yX3_seek cX3_seek 7 none :: WALL) { frames := 4, cells := 0, slots := 0, locals := 98 } [13, 11, 100, 17] none T_X3_seek := by
  refine MtS.mk (B := E_X3_seek) (by decide +kernel) (by decide) (fun _ _ _ hh => hh) ?_
  intro X Q e1 e2 e3 hC hN hT
  subst e1
  have hC : CF X cX3_seek RX3 WALL := hC
  have S_89 : ∀ (k13 : xK), SdS X 13 [(0, 13), (1, 11), (2, 100), (3, 17), (4, 0)] [] k13 → SdS X 89 [(0, 13), (1, 11), (2, 100), (3, 17), (4, 0), (5, 0), (6, 16)] [] (B_X3_seek_89 Q k13) := by
    intro k13 h13
    unfold B_X3_seek_89
    refine su_iinc (Γ' := [(0, 13), (1, 11), (2, 100), (3, 17), (4, 0), (5, 0), (6, 16)]) hC dX3_seek_89 (by decide) (by rw [e2]; decide) (by decide) (?_ : SdS X 92 [(0, 13), (1, 11), (2, 100), (3, 17), (4, 0), (5, 0), (6, 16)] [] _)
    refine su_goto (tgt := 13) hC dX3_seek_92 rfl (?_ : SdS X 13 [(0, 13), (1, 11), (2, 100), (3, 17), (4, 0), (5, 0), (6, 16)] [] _)
    exact SdS.weak (by decide) h13
  have S_30 : ∀ (k13 : xK), SdS X 13 [(0, 13), (1, 11), (2, 100), (3, 17), (4, 0)] [] k13 → SdS X 30 [(0, 13), (1, 11), (2, 100), (3, 17), (4, 0)] [0] (B_X3_seek_30 Q k13) := by
    intro k13 h13
    unfold B_X3_seek_30
    refine su_istore (Γ' := [(0, 13), (1, 11), (2, 100), (3, 17), (4, 0), (5, 0)]) hC dX3_seek_30 (by rw [e2]; decide) (by decide) (?_ : SdS X 32 [(0, 13), (1, 11), (2, 100), (3, 17), (4, 0), (5, 0)] [] _)
    refine su_aload_n hC 13 dX3_seek_32 rfl (by decide) (by decide) (?_ : SdS X 33 [(0, 13), (1, 11), (2, 100), (3, 17), (4, 0), (5, 0)] [13] _)
    refine su_getR hC (ci := 3) (j := 0) (C := RX3) (T := TX3) (N := 6) rfl rfl (by decide) in_X3 wl_1_206 rfl dX3_seek_33 (?_ : SdS X 36 [(0, 13), (1, 11), (2, 100), (3, 17), (4, 0), (5, 0)] [11] _)
    refine su_aload_n hC 100 dX3_seek_36 rfl (by decide) (by decide) (?_ : SdS X 37 [(0, 13), (1, 11), (2, 100), (3, 17), (4, 0), (5, 0)] [100, 11] _)
    refine su_iconst hC dX3_seek_37 ⟨by decide, by decide⟩ (?_ : SdS X 38 [(0, 13), (1, 11), (2, 100), (3, 17), (4, 0), (5, 0)] [0, 100, 11] _)
    refine su_iaload hC dX3_seek_38 (?_ : SdS X 39 [(0, 13), (1, 11), (2, 100), (3, 17), (4, 0), (5, 0)] [0, 11] _)
    refine su_iload hC dX3_seek_39 (by decide) (?_ : SdS X 41 [(0, 13), (1, 11), (2, 100), (3, 17), (4, 0), (5, 0)] [0, 0, 11] _)
    refine su_inv0 (τ := []) (τr := [0, 0]) (ci := 1) (q := (RX1, TX1, 12)) hC WG (M_X1_thing _) rfl rfl rfl rfl  rfl rfl wl_3_131 wl_3_132 wl_3_133 wl_1_2 wl_3_134 hd_X1_thing (by rw [e3]; decide) (by decide) dX3_seek_41 (?_ : SdS X 44 [(0, 13), (1, 11), (2, 100), (3, 17), (4, 0), (5, 0)] [16] _)
    refine su_astore (Γ' := [(0, 13), (1, 11), (2, 100), (3, 17), (4, 0), (5, 0), (6, 16)]) hC dX3_seek_44 (by decide) (by rw [e2]; decide) (by decide) (?_ : SdS X 46 [(0, 13), (1, 11), (2, 100), (3, 17), (4, 0), (5, 0), (6, 16)] [] _)
    refine su_aload hC 16 dX3_seek_46 (by decide) (by decide) (?_ : SdS X 48 [(0, 13), (1, 11), (2, 100), (3, 17), (4, 0), (5, 0), (6, 16)] [16] _)
    refine su_getF hC (ci := 6) (j := 4) (C := RX6) (T := TX6) (N := 7) rfl rfl (by decide) in_X6 wl_1_54 rfl dX3_seek_48 (?_ : SdS X 51 [(0, 13), (1, 11), (2, 100), (3, 17), (4, 0), (5, 0), (6, 16)] [0] _)
    refine su_if_le (tgt := 89) hC dX3_seek_51 rfl (?_ : SdS X 89 [(0, 13), (1, 11), (2, 100), (3, 17), (4, 0), (5, 0), (6, 16)] [] _) (?_ : SdS X 54 [(0, 13), (1, 11), (2, 100), (3, 17), (4, 0), (5, 0), (6, 16)] [] _)
    · exact SdS.weak (by decide) (S_89 k13 h13)
    · refine su_aload_n hC 13 dX3_seek_54 rfl (by decide) (by decide) (?_ : SdS X 55 [(0, 13), (1, 11), (2, 100), (3, 17), (4, 0), (5, 0), (6, 16)] [13] _)
      refine su_aload hC 16 dX3_seek_55 (by decide) (by decide) (?_ : SdS X 57 [(0, 13), (1, 11), (2, 100), (3, 17), (4, 0), (5, 0), (6, 16)] [16, 13] _)
      refine su_aload_n hC 100 dX3_seek_57 rfl (by decide) (by decide) (?_ : SdS X 58 [(0, 13), (1, 11), (2, 100), (3, 17), (4, 0), (5, 0), (6, 16)] [100, 16, 13] _)
      refine su_iconst hC dX3_seek_58 ⟨by decide, by decide⟩ (?_ : SdS X 59 [(0, 13), (1, 11), (2, 100), (3, 17), (4, 0), (5, 0), (6, 16)] [0, 100, 16, 13] _)
      refine su_iaload hC dX3_seek_59 (?_ : SdS X 60 [(0, 13), (1, 11), (2, 100), (3, 17), (4, 0), (5, 0), (6, 16)] [0, 16, 13] _)
      refine su_aload_n hC 100 dX3_seek_60 rfl (by decide) (by decide) (?_ : SdS X 61 [(0, 13), (1, 11), (2, 100), (3, 17), (4, 0), (5, 0), (6, 16)] [100, 0, 16, 13] _)
      refine su_iconst hC dX3_seek_61 ⟨by decide, by decide⟩ (?_ : SdS X 62 [(0, 13), (1, 11), (2, 100), (3, 17), (4, 0), (5, 0), (6, 16)] [0, 100, 0, 16, 13] _)
      refine su_iaload hC dX3_seek_62 (?_ : SdS X 63 [(0, 13), (1, 11), (2, 100), (3, 17), (4, 0), (5, 0), (6, 16)] [0, 0, 16, 13] _)
      refine su_inv0 (τ := []) (τr := [16, 0, 0]) (ci := 3) (q := (RX3, TX3, 6)) hC WG (M_X3_allBear _) rfl rfl rfl rfl  rfl rfl wl_3_135 wl_3_137 wp_26 wl_1_5 wl_3_138 hd_X3_allBear (by rw [e3]; decide) (by decide) dX3_seek_63 (?_ : SdS X 66 [(0, 13), (1, 11), (2, 100), (3, 17), (4, 0), (5, 0), (6, 16)] [0] _)
      refine su_if_eq (tgt := 89) hC dX3_seek_66 rfl (?_ : SdS X 89 [(0, 13), (1, 11), (2, 100), (3, 17), (4, 0), (5, 0), (6, 16)] [] _) (?_ : SdS X 69 [(0, 13), (1, 11), (2, 100), (3, 17), (4, 0), (5, 0), (6, 16)] [] _)
      · exact SdS.weak (by decide) (S_89 k13 h13)
      · refine su_aload_n hC 13 dX3_seek_69 rfl (by decide) (by decide) (?_ : SdS X 70 [(0, 13), (1, 11), (2, 100), (3, 17), (4, 0), (5, 0), (6, 16)] [13] _)
        refine su_aload hC 16 dX3_seek_70 (by decide) (by decide) (?_ : SdS X 72 [(0, 13), (1, 11), (2, 100), (3, 17), (4, 0), (5, 0), (6, 16)] [16, 13] _)
        refine su_inv0v (τ := []) (τr := [16]) (ci := 3) (q := (RX3, TX3, 6)) hC WG (M_X3_priceGates _) rfl rfl rfl rfl  rfl rfl wl_3_157 wl_3_159 wp_27 wl_1_5 wl_3_160 hd_X3_priceGates (by rw [e3]; decide) (by decide) dX3_seek_72 (?_ : SdS X 75 [(0, 13), (1, 11), (2, 100), (3, 17), (4, 0), (5, 0), (6, 16)] [] _)
        refine su_aload_n hC 13 dX3_seek_75 rfl (by decide) (by decide) (?_ : SdS X 76 [(0, 13), (1, 11), (2, 100), (3, 17), (4, 0), (5, 0), (6, 16)] [13] _)
        refine su_aload hC 16 dX3_seek_76 (by decide) (by decide) (?_ : SdS X 78 [(0, 13), (1, 11), (2, 100), (3, 17), (4, 0), (5, 0), (6, 16)] [16, 13] _)
        refine su_iload hC dX3_seek_78 (by decide) (?_ : SdS X 80 [(0, 13), (1, 11), (2, 100), (3, 17), (4, 0), (5, 0), (6, 16)] [0, 16, 13] _)
        refine su_aload_n hC 13 dX3_seek_80 rfl (by decide) (by decide) (?_ : SdS X 81 [(0, 13), (1, 11), (2, 100), (3, 17), (4, 0), (5, 0), (6, 16)] [13, 0, 16, 13] _)
        refine su_aload_n hC 100 dX3_seek_81 rfl (by decide) (by decide) (?_ : SdS X 82 [(0, 13), (1, 11), (2, 100), (3, 17), (4, 0), (5, 0), (6, 16)] [100, 13, 0, 16, 13] _)
        refine su_inv0 (τ := [0, 16, 13]) (τr := [100]) (ci := 3) (q := (RX3, TX3, 6)) hC WG (M_X3_costOf _) rfl rfl rfl rfl  rfl rfl wl_3_189 wl_3_191 wp_28 wl_1_5 wl_3_192 hd_X3_costOf (by rw [e3]; decide) (by decide) dX3_seek_82 (?_ : SdS X 85 [(0, 13), (1, 11), (2, 100), (3, 17), (4, 0), (5, 0), (6, 16)] [0, 0, 16, 13] _)
        refine su_aload_n hC 17 dX3_seek_85 rfl (by decide) (by decide) (?_ : SdS X 86 [(0, 13), (1, 11), (2, 100), (3, 17), (4, 0), (5, 0), (6, 16)] [17, 0, 0, 16, 13] _)
        refine su_inv0v (τ := []) (τr := [16, 0, 0, 17]) (ci := 3) (q := (RX3, TX3, 6)) hC WG (M_X3_keepIfBest _) rfl rfl rfl rfl  rfl rfl wl_3_208 wl_3_210 wp_32 wl_1_5 wl_3_211 hd_X3_keepIfBest (by rw [e3]; decide) (by decide) dX3_seek_86 (?_ : SdS X 89 [(0, 13), (1, 11), (2, 100), (3, 17), (4, 0), (5, 0), (6, 16)] [] _)
        exact SdS.weak (by decide) (S_89 k13 h13)
  have S_13 : SdS X 13 [(0, 13), (1, 11), (2, 100), (3, 17), (4, 0)] [] (L_X3_seek_13 Q) := by
    unfold L_X3_seek_13
    refine SdS.loop (fun k13 h13 => ?_)
    refine su_iload hC dX3_seek_13 (by decide) (?_ : SdS X 15 [(0, 13), (1, 11), (2, 100), (3, 17), (4, 0)] [0] _)
    refine su_iconst hC dX3_seek_15 ⟨by decide, by decide⟩ (?_ : SdS X 16 [(0, 13), (1, 11), (2, 100), (3, 17), (4, 0)] [0, 0] _)
    refine su_icmp_ge (tgt := 95) hC dX3_seek_16 rfl (?_ : SdS X 95 [(0, 13), (1, 11), (2, 100), (3, 17), (4, 0)] [] _) (?_ : SdS X 19 [(0, 13), (1, 11), (2, 100), (3, 17), (4, 0)] [] _)
    · exact su_return hC hT dX3_seek_95
    · refine su_iload hC dX3_seek_19 (by decide) (?_ : SdS X 21 [(0, 13), (1, 11), (2, 100), (3, 17), (4, 0)] [0] _)
      refine su_iconst hC dX3_seek_21 ⟨by decide, by decide⟩ (?_ : SdS X 22 [(0, 13), (1, 11), (2, 100), (3, 17), (4, 0)] [0, 0] _)
      refine su_icmp_ne (tgt := 29) hC dX3_seek_22 rfl (?_ : SdS X 29 [(0, 13), (1, 11), (2, 100), (3, 17), (4, 0)] [] _) (?_ : SdS X 25 [(0, 13), (1, 11), (2, 100), (3, 17), (4, 0)] [] _)
      · refine su_iconst hC dX3_seek_29 ⟨by decide, by decide⟩ (?_ : SdS X 30 [(0, 13), (1, 11), (2, 100), (3, 17), (4, 0)] [0] _)
        exact SdS.weak (by decide) (S_30 k13 h13)
      · refine su_iconst hC dX3_seek_25 ⟨by decide, by decide⟩ (?_ : SdS X 26 [(0, 13), (1, 11), (2, 100), (3, 17), (4, 0)] [0] _)
        refine su_goto (tgt := 30) hC dX3_seek_26 rfl (?_ : SdS X 30 [(0, 13), (1, 11), (2, 100), (3, 17), (4, 0)] [0] _)
        exact SdS.weak (by decide) (S_30 k13 h13)
  refine (?_ : SdS X 0 [(0, 13), (1, 11), (2, 100), (3, 17)] [] (E_X3_seek Q))
  unfold E_X3_seek
  refine su_aload_n hC 13 dX3_seek_0 rfl (by decide) (by decide) (?_ : SdS X 1 [(0, 13), (1, 11), (2, 100), (3, 17)] [13] _)
  refine su_aload_n hC 11 dX3_seek_1 rfl (by decide) (by decide) (?_ : SdS X 2 [(0, 13), (1, 11), (2, 100), (3, 17)] [11, 13] _)
  refine su_putR hC (ci := 3) (j := 0) (C := RX3) (T := TX3) (N := 6) tyX3 tyX3_ok nmX3 rfl rfl (by decide) in_X3 rfl rfl wl_1_206 rfl dX3_seek_2 (?_ : SdS X 5 [(0, 13), (1, 11), (2, 100), (3, 17)] [] _)
  refine su_aload_n hC 17 dX3_seek_5 rfl (by decide) (by decide) (?_ : SdS X 6 [(0, 13), (1, 11), (2, 100), (3, 17)] [17] _)
  refine su_iconst hC dX3_seek_6 ⟨by decide, by decide⟩ (?_ : SdS X 7 [(0, 13), (1, 11), (2, 100), (3, 17)] [0, 17] _)
  refine su_putz hC (ci := 7) (j := 0) (C := RX7) (T := TX7) (N := 7) tyX7 tyX7_ok nmX7 rfl rfl (by decide) in_X7 rfl rfl rfl wl_1_233 rfl dX3_seek_7 (?_ : SdS X 10 [(0, 13), (1, 11), (2, 100), (3, 17)] [] _)
  refine su_iconst hC dX3_seek_10 ⟨by decide, by decide⟩ (?_ : SdS X 11 [(0, 13), (1, 11), (2, 100), (3, 17)] [0] _)
  refine su_istore (Γ' := [(0, 13), (1, 11), (2, 100), (3, 17), (4, 0)]) hC dX3_seek_11 (by rw [e2]; decide) (by decide) (?_ : SdS X 13 [(0, 13), (1, 11), (2, 100), (3, 17), (4, 0)] [] _)
  exact SdS.weak (by decide) (S_13)
theorem wl_1_162 : Cond.fieldLink RX4 44 "NarrowRings$Reader" "fault" "I" ∈ WALL := tb1 (List.mem_of_getElem? (i := 162) rfl) rfl
theorem wl_1_152 : Cond.fieldLink RX4 47 "NarrowRings$Reader" "place" "I" ∈ WALL := tb1 (List.mem_of_getElem? (i := 152) rfl) rfl
theorem hd_X4_flaw : yX4_flaw.cls ≠ "java/lang/invoke/MethodHandle" ∧ yX4_flaw.cls ≠ "java/lang/invoke/VarHandle" ∧ (parseMethodDescriptor yX4_flaw.desc).map (fun d => d.parameters.length) = some 2 := by decide +kernel
set_option maxRecDepth 100000 in
set_option maxHeartbeats 4000000 in
theorem M_X4_flaw (l : Launch) : MtS l yX4_flaw (Cond.code yX4_flaw cX4_flaw 3 (some .boolean) :: WALL) { frames := 0, cells := 0, slots := 0, locals := 0 } [14, 0, 0] (some 0) T_X4_flaw := by
  refine MtS.mk (B := E_X4_flaw) (by decide +kernel) (by decide) (fun _ _ _ hh => hh) ?_
  intro X Q e1 e2 e3 hC hN hT
  subst e1
  have hC : CF X cX4_flaw RX4 WALL := hC
  refine (?_ : SdS X 0 [(0, 14), (1, 0), (2, 0)] [] (E_X4_flaw Q))
  unfold E_X4_flaw
  refine su_aload_n hC 14 dX4_flaw_0 rfl (by decide) (by decide) (?_ : SdS X 1 [(0, 14), (1, 0), (2, 0)] [14] _)
  refine su_iload_n hC dX4_flaw_1 rfl (by decide) (?_ : SdS X 2 [(0, 14), (1, 0), (2, 0)] [0, 14] _)
  refine su_putF hC (ci := 4) (j := 9) (C := RX4) (T := TX4) (N := 15) tyX4 tyX4_ok nmX4 rfl rfl (by decide) in_X4 rfl rfl wl_1_162 rfl dX4_flaw_2 (?_ : SdS X 5 [(0, 14), (1, 0), (2, 0)] [] _)
  refine su_aload_n hC 14 dX4_flaw_5 rfl (by decide) (by decide) (?_ : SdS X 6 [(0, 14), (1, 0), (2, 0)] [14] _)
  refine su_iload_n hC dX4_flaw_6 rfl (by decide) (?_ : SdS X 7 [(0, 14), (1, 0), (2, 0)] [0, 14] _)
  refine su_putF hC (ci := 4) (j := 0) (C := RX4) (T := TX4) (N := 15) tyX4 tyX4_ok nmX4 rfl rfl (by decide) in_X4 rfl rfl wl_1_152 rfl dX4_flaw_7 (?_ : SdS X 10 [(0, 14), (1, 0), (2, 0)] [] _)
  refine su_iconst hC dX4_flaw_10 ⟨by decide, by decide⟩ (?_ : SdS X 11 [(0, 14), (1, 0), (2, 0)] [0] _)
  exact su_zreturn hC hT dX4_flaw_11
theorem wl_1_163 : Cond.fieldLink RX4 17 "NarrowRings$Reader" "into" "LNarrowRings$City;" ∈ WALL := tb1 (List.mem_of_getElem? (i := 163) rfl) rfl
theorem wl_1_78 : Cond.fieldLink RX4 60 "NarrowRings$City" "rings" "I" ∈ WALL := tb1 (List.mem_of_getElem? (i := 78) rfl) rfl
theorem wl_1_156 : Cond.fieldLink RX4 63 "NarrowRings$Reader" "at" "I" ∈ WALL := tb1 (List.mem_of_getElem? (i := 156) rfl) rfl
theorem wl_3_17 : Cond.methodLink RX4 66 yX4_flaw ∈ WALL := tb3 (List.mem_of_getElem? (i := 17) rfl) rfl
theorem wl_3_19 : Cond.instanceMethod yX4_flaw ∈ WALL := tb3 (List.mem_of_getElem? (i := 19) rfl) rfl
theorem wp_6 : Cond.selects RX4 yX4_flaw yX4_flaw ∈ WALL := tbS (List.mem_of_getElem? (i := 6) rfl)
theorem wl_1_4 : Cond.initialized RX4 ∈ WALL := tb1 (List.mem_of_getElem? (i := 4) rfl) rfl
theorem wl_3_20 : Cond.code yX4_flaw cX4_flaw 3 (some .boolean) ∈ WALL := tb3 (List.mem_of_getElem? (i := 20) rfl) rfl
theorem hd_X4_mayTellRings : yX4_mayTellRings.cls ≠ "java/lang/invoke/MethodHandle" ∧ yX4_mayTellRings.cls ≠ "java/lang/invoke/VarHandle" ∧ (parseMethodDescriptor yX4_mayTellRings.desc).map (fun d => d.parameters.length) = some 2 := by decide +kernel
set_option maxRecDepth 100000 in
set_option maxHeartbeats 4000000 in
theorem M_X4_mayTellRings (l : Launch) : MtS l yX4_mayTellRings (Cond.code yX4_mayTellRings cX4_mayTellRings 3 (some .boolean) :: WALL) { frames := 1, cells := 0, slots := 0, locals := 22 } [14, 0, 0] (some 0) T_X4_mayTellRings := by
  refine MtS.mk (B := E_X4_mayTellRings) (by decide +kernel) (by decide) (fun _ _ _ hh => hh) ?_
  intro X Q e1 e2 e3 hC hN hT
  subst e1
  have hC : CF X cX4_mayTellRings RX4 WALL := hC
  have S_43 : SdS X 43 [(0, 14), (1, 0), (2, 0)] [0] (B_X4_mayTellRings_43 Q) := by
    unfold B_X4_mayTellRings_43
    exact su_zreturn hC hT dX4_mayTellRings_43
  have S_38 : SdS X 38 [(0, 14), (1, 0), (2, 0)] [] (B_X4_mayTellRings_38 Q) := by
    unfold B_X4_mayTellRings_38
    refine su_iconst hC dX4_mayTellRings_38 ⟨by decide, by decide⟩ (?_ : SdS X 39 [(0, 14), (1, 0), (2, 0)] [0] _)
    refine su_goto (tgt := 43) hC dX4_mayTellRings_39 rfl (?_ : SdS X 43 [(0, 14), (1, 0), (2, 0)] [0] _)
    exact SdS.weak (by decide) (S_43)
  refine (?_ : SdS X 0 [(0, 14), (1, 0), (2, 0)] [] (E_X4_mayTellRings Q))
  unfold E_X4_mayTellRings
  refine su_iload_n hC dX4_mayTellRings_0 rfl (by decide) (?_ : SdS X 1 [(0, 14), (1, 0), (2, 0)] [0] _)
  refine su_iload_n hC dX4_mayTellRings_1 rfl (by decide) (?_ : SdS X 2 [(0, 14), (1, 0), (2, 0)] [0, 0] _)
  refine su_icmp_lt (tgt := 15) hC dX4_mayTellRings_2 rfl (?_ : SdS X 15 [(0, 14), (1, 0), (2, 0)] [] _) (?_ : SdS X 5 [(0, 14), (1, 0), (2, 0)] [] _)
  · refine su_aload_n hC 14 dX4_mayTellRings_15 rfl (by decide) (by decide) (?_ : SdS X 16 [(0, 14), (1, 0), (2, 0)] [14] _)
    refine su_getR hC (ci := 4) (j := 10) (C := RX4) (T := TX4) (N := 15) rfl rfl (by decide) in_X4 wl_1_163 rfl dX4_mayTellRings_16 (?_ : SdS X 19 [(0, 14), (1, 0), (2, 0)] [11] _)
    refine su_getF hC (ci := 1) (j := 0) (C := RX1) (T := TX1) (N := 12) rfl rfl (by decide) in_X1 wl_1_78 rfl dX4_mayTellRings_19 (?_ : SdS X 22 [(0, 14), (1, 0), (2, 0)] [0] _)
    refine su_if_gt (tgt := 38) hC dX4_mayTellRings_22 rfl (?_ : SdS X 38 [(0, 14), (1, 0), (2, 0)] [] _) (?_ : SdS X 25 [(0, 14), (1, 0), (2, 0)] [] _)
    · exact SdS.weak (by decide) (S_38)
    · refine su_aload_n hC 14 dX4_mayTellRings_25 rfl (by decide) (by decide) (?_ : SdS X 26 [(0, 14), (1, 0), (2, 0)] [14] _)
      refine su_bipush hC dX4_mayTellRings_26 (by decide) (?_ : SdS X 28 [(0, 14), (1, 0), (2, 0)] [0, 14] _)
      refine su_aload_n hC 14 dX4_mayTellRings_28 rfl (by decide) (by decide) (?_ : SdS X 29 [(0, 14), (1, 0), (2, 0)] [14, 0, 14] _)
      refine su_getF hC (ci := 4) (j := 3) (C := RX4) (T := TX4) (N := 15) rfl rfl (by decide) in_X4 wl_1_156 rfl dX4_mayTellRings_29 (?_ : SdS X 32 [(0, 14), (1, 0), (2, 0)] [0, 0, 14] _)
      refine su_inv0 (τ := []) (τr := [0, 0]) (ci := 4) (q := (RX4, TX4, 15)) hC WG (M_X4_flaw _) rfl rfl rfl rfl  rfl rfl wl_3_17 wl_3_19 wp_6 wl_1_4 wl_3_20 hd_X4_flaw (by rw [e3]; decide) (by decide) dX4_mayTellRings_32 (?_ : SdS X 35 [(0, 14), (1, 0), (2, 0)] [0] _)
      refine su_if_eq (tgt := 42) hC dX4_mayTellRings_35 rfl (?_ : SdS X 42 [(0, 14), (1, 0), (2, 0)] [] _) (?_ : SdS X 38 [(0, 14), (1, 0), (2, 0)] [] _)
      · refine su_iconst hC dX4_mayTellRings_42 ⟨by decide, by decide⟩ (?_ : SdS X 43 [(0, 14), (1, 0), (2, 0)] [0] _)
        exact SdS.weak (by decide) (S_43)
      · exact SdS.weak (by decide) (S_38)
  · refine su_aload_n hC 14 dX4_mayTellRings_5 rfl (by decide) (by decide) (?_ : SdS X 6 [(0, 14), (1, 0), (2, 0)] [14] _)
    refine su_iconst hC dX4_mayTellRings_6 ⟨by decide, by decide⟩ (?_ : SdS X 7 [(0, 14), (1, 0), (2, 0)] [0, 14] _)
    refine su_aload_n hC 14 dX4_mayTellRings_7 rfl (by decide) (by decide) (?_ : SdS X 8 [(0, 14), (1, 0), (2, 0)] [14, 0, 14] _)
    refine su_getF hC (ci := 4) (j := 3) (C := RX4) (T := TX4) (N := 15) rfl rfl (by decide) in_X4 wl_1_156 rfl dX4_mayTellRings_8 (?_ : SdS X 11 [(0, 14), (1, 0), (2, 0)] [0, 0, 14] _)
    refine su_inv0 (τ := []) (τr := [0, 0]) (ci := 4) (q := (RX4, TX4, 15)) hC WG (M_X4_flaw _) rfl rfl rfl rfl  rfl rfl wl_3_17 wl_3_19 wp_6 wl_1_4 wl_3_20 hd_X4_flaw (by rw [e3]; decide) (by decide) dX4_mayTellRings_11 (?_ : SdS X 14 [(0, 14), (1, 0), (2, 0)] [0] _)
    exact su_zreturn hC hT dX4_mayTellRings_14
theorem wl_1_157 : Cond.fieldLink RX4 38 "NarrowRings$Reader" "behind" "I" ∈ WALL := tb1 (List.mem_of_getElem? (i := 157) rfl) rfl
theorem wl_1_155 : Cond.fieldLink RX4 34 "NarrowRings$Reader" "length" "I" ∈ WALL := tb1 (List.mem_of_getElem? (i := 155) rfl) rfl
theorem wl_1_160 : Cond.fieldLink RX4 70 "NarrowRings$Reader" "code" "J" ∈ WALL := tb1 (List.mem_of_getElem? (i := 160) rfl) rfl
theorem wl_1_159 : Cond.fieldLink RX4 78 "NarrowRings$Reader" "value" "I" ∈ WALL := tb1 (List.mem_of_getElem? (i := 159) rfl) rfl
theorem wl_1_154 : Cond.fieldLink RX4 11 "NarrowRings$Reader" "text" "[I" ∈ WALL := tb1 (List.mem_of_getElem? (i := 154) rfl) rfl
theorem wl_1_158 : Cond.fieldLink RX4 57 "NarrowRings$Reader" "kind" "I" ∈ WALL := tb1 (List.mem_of_getElem? (i := 158) rfl) rfl
theorem wl_2_194 : Cond.constantLong RX4 74 (Int64.ofInt 32) ∈ WALL := tb2 (List.mem_of_getElem? (i := 194) rfl) rfl
theorem wl_2_195 : Cond.constantLong RX4 76 (Int64.ofInt 97) ∈ WALL := tb2 (List.mem_of_getElem? (i := 195) rfl) rfl
theorem hd_X4_step : yX4_step.cls ≠ "java/lang/invoke/MethodHandle" ∧ yX4_step.cls ≠ "java/lang/invoke/VarHandle" ∧ (parseMethodDescriptor yX4_step.desc).map (fun d => d.parameters.length) = some 0 := by decide +kernel
set_option maxRecDepth 100000 in
set_option maxHeartbeats 4000000 in
theorem M_X4_step (l : Launch) : MtS l yX4_step (Cond.code yX4_step cX4_step 1 none :: WALL) { frames := 0, cells := 0, slots := 0, locals := 0 } [14] none T_X4_step := by
  refine MtS.mk (B := E_X4_step) (by decide +kernel) (by decide) (fun _ _ _ hh => hh) ?_
  intro X Q e1 e2 e3 hC hN hT
  subst e1
  have hC : CF X cX4_step RX4 WALL := hC
  have S_364 : SdS X 364 [(0, 14)] [] (B_X4_step_364 Q) := by
    unfold B_X4_step_364
    exact su_return hC hT dX4_step_364
  have S_361 : SdS X 361 [(0, 14)] [0, 14] (B_X4_step_361 Q) := by
    unfold B_X4_step_361
    refine su_putF hC (ci := 4) (j := 5) (C := RX4) (T := TX4) (N := 15) tyX4 tyX4_ok nmX4 rfl rfl (by decide) in_X4 rfl rfl wl_1_158 rfl dX4_step_361 (?_ : SdS X 364 [(0, 14)] [] _)
    exact SdS.weak (by decide) (S_364)
  have S_286 : SdS X 286 [(0, 14)] [0, 14] (B_X4_step_286 Q) := by
    unfold B_X4_step_286
    refine su_putF hC (ci := 4) (j := 5) (C := RX4) (T := TX4) (N := 15) tyX4 tyX4_ok nmX4 rfl rfl (by decide) in_X4 rfl rfl wl_1_158 rfl dX4_step_286 (?_ : SdS X 289 [(0, 14)] [] _)
    exact su_return hC hT dX4_step_289
  have S_256 : SdS X 256 [(0, 14)] [] (B_X4_step_256 Q) := by
    unfold B_X4_step_256
    refine su_aload_n hC 14 dX4_step_256 rfl (by decide) (by decide) (?_ : SdS X 257 [(0, 14)] [14] _)
    refine su_getF hC (ci := 4) (j := 4) (C := RX4) (T := TX4) (N := 15) rfl rfl (by decide) in_X4 wl_1_157 rfl dX4_step_257 (?_ : SdS X 260 [(0, 14)] [0] _)
    refine su_aload_n hC 14 dX4_step_260 rfl (by decide) (by decide) (?_ : SdS X 261 [(0, 14)] [14, 0] _)
    refine su_getF hC (ci := 4) (j := 3) (C := RX4) (T := TX4) (N := 15) rfl rfl (by decide) in_X4 wl_1_156 rfl dX4_step_261 (?_ : SdS X 264 [(0, 14)] [0, 0] _)
    refine su_icmp_le (tgt := 290) hC dX4_step_264 rfl (?_ : SdS X 290 [(0, 14)] [] _) (?_ : SdS X 267 [(0, 14)] [] _)
    · refine su_aload_n hC 14 dX4_step_290 rfl (by decide) (by decide) (?_ : SdS X 291 [(0, 14)] [14] _)
      refine su_aload_n hC 14 dX4_step_291 rfl (by decide) (by decide) (?_ : SdS X 292 [(0, 14)] [14, 14] _)
      refine su_getF hC (ci := 4) (j := 3) (C := RX4) (T := TX4) (N := 15) rfl rfl (by decide) in_X4 wl_1_156 rfl dX4_step_292 (?_ : SdS X 295 [(0, 14)] [0, 14] _)
      refine su_iconst hC dX4_step_295 ⟨by decide, by decide⟩ (?_ : SdS X 296 [(0, 14)] [0, 0, 14] _)
      refine su_iadd hC dX4_step_296 (?_ : SdS X 297 [(0, 14)] [0, 14] _)
      refine su_putF hC (ci := 4) (j := 4) (C := RX4) (T := TX4) (N := 15) tyX4 tyX4_ok nmX4 rfl rfl (by decide) in_X4 rfl rfl wl_1_157 rfl dX4_step_297 (?_ : SdS X 300 [(0, 14)] [] _)
      refine su_aload_n hC 14 dX4_step_300 rfl (by decide) (by decide) (?_ : SdS X 301 [(0, 14)] [14] _)
      refine su_getF hC (ci := 4) (j := 3) (C := RX4) (T := TX4) (N := 15) rfl rfl (by decide) in_X4 wl_1_156 rfl dX4_step_301 (?_ : SdS X 304 [(0, 14)] [0] _)
      refine su_aload_n hC 14 dX4_step_304 rfl (by decide) (by decide) (?_ : SdS X 305 [(0, 14)] [14, 0] _)
      refine su_getF hC (ci := 4) (j := 2) (C := RX4) (T := TX4) (N := 15) rfl rfl (by decide) in_X4 wl_1_155 rfl dX4_step_305 (?_ : SdS X 308 [(0, 14)] [0, 0] _)
      refine su_icmp_lt (tgt := 319) hC dX4_step_308 rfl (?_ : SdS X 319 [(0, 14)] [] _) (?_ : SdS X 311 [(0, 14)] [] _)
      · refine su_aload_n hC 14 dX4_step_319 rfl (by decide) (by decide) (?_ : SdS X 320 [(0, 14)] [14] _)
        refine su_getR hC (ci := 4) (j := 1) (C := RX4) (T := TX4) (N := 15) rfl rfl (by decide) in_X4 wl_1_154 rfl dX4_step_320 (?_ : SdS X 323 [(0, 14)] [100] _)
        refine su_aload_n hC 14 dX4_step_323 rfl (by decide) (by decide) (?_ : SdS X 324 [(0, 14)] [14, 100] _)
        refine su_getF hC (ci := 4) (j := 3) (C := RX4) (T := TX4) (N := 15) rfl rfl (by decide) in_X4 wl_1_156 rfl dX4_step_324 (?_ : SdS X 327 [(0, 14)] [0, 100] _)
        refine su_iaload hC dX4_step_327 (?_ : SdS X 328 [(0, 14)] [0] _)
        refine su_bipush hC dX4_step_328 (by decide) (?_ : SdS X 330 [(0, 14)] [0, 0] _)
        refine su_icmp_ne (tgt := 341) hC dX4_step_330 rfl (?_ : SdS X 341 [(0, 14)] [] _) (?_ : SdS X 333 [(0, 14)] [] _)
        · refine su_aload_n hC 14 dX4_step_341 rfl (by decide) (by decide) (?_ : SdS X 342 [(0, 14)] [14] _)
          refine su_aload_n hC 14 dX4_step_342 rfl (by decide) (by decide) (?_ : SdS X 343 [(0, 14)] [14, 14] _)
          refine su_getR hC (ci := 4) (j := 1) (C := RX4) (T := TX4) (N := 15) rfl rfl (by decide) in_X4 wl_1_154 rfl dX4_step_343 (?_ : SdS X 346 [(0, 14)] [100, 14] _)
          refine su_aload_n hC 14 dX4_step_346 rfl (by decide) (by decide) (?_ : SdS X 347 [(0, 14)] [14, 100, 14] _)
          refine su_getF hC (ci := 4) (j := 3) (C := RX4) (T := TX4) (N := 15) rfl rfl (by decide) in_X4 wl_1_156 rfl dX4_step_347 (?_ : SdS X 350 [(0, 14)] [0, 100, 14] _)
          refine su_iaload hC dX4_step_350 (?_ : SdS X 351 [(0, 14)] [0, 14] _)
          refine su_bipush hC dX4_step_351 (by decide) (?_ : SdS X 353 [(0, 14)] [0, 0, 14] _)
          refine su_icmp_ne (tgt := 360) hC dX4_step_353 rfl (?_ : SdS X 360 [(0, 14)] [14] _) (?_ : SdS X 356 [(0, 14)] [14] _)
          · refine su_iconst hC dX4_step_360 ⟨by decide, by decide⟩ (?_ : SdS X 361 [(0, 14)] [0, 14] _)
            exact SdS.weak (by decide) (S_361)
          · refine su_iconst hC dX4_step_356 ⟨by decide, by decide⟩ (?_ : SdS X 357 [(0, 14)] [0, 14] _)
            refine su_goto (tgt := 361) hC dX4_step_357 rfl (?_ : SdS X 361 [(0, 14)] [0, 14] _)
            exact SdS.weak (by decide) (S_361)
        · refine su_aload_n hC 14 dX4_step_333 rfl (by decide) (by decide) (?_ : SdS X 334 [(0, 14)] [14] _)
          refine su_iconst hC dX4_step_334 ⟨by decide, by decide⟩ (?_ : SdS X 335 [(0, 14)] [0, 14] _)
          refine su_putF hC (ci := 4) (j := 5) (C := RX4) (T := TX4) (N := 15) tyX4 tyX4_ok nmX4 rfl rfl (by decide) in_X4 rfl rfl wl_1_158 rfl dX4_step_335 (?_ : SdS X 338 [(0, 14)] [] _)
          refine su_goto (tgt := 364) hC dX4_step_338 rfl (?_ : SdS X 364 [(0, 14)] [] _)
          exact SdS.weak (by decide) (S_364)
      · refine su_aload_n hC 14 dX4_step_311 rfl (by decide) (by decide) (?_ : SdS X 312 [(0, 14)] [14] _)
        refine su_iconst hC dX4_step_312 ⟨by decide, by decide⟩ (?_ : SdS X 313 [(0, 14)] [0, 14] _)
        refine su_putF hC (ci := 4) (j := 5) (C := RX4) (T := TX4) (N := 15) tyX4 tyX4_ok nmX4 rfl rfl (by decide) in_X4 rfl rfl wl_1_158 rfl dX4_step_313 (?_ : SdS X 316 [(0, 14)] [] _)
        refine su_goto (tgt := 364) hC dX4_step_316 rfl (?_ : SdS X 364 [(0, 14)] [] _)
        exact SdS.weak (by decide) (S_364)
    · refine su_aload_n hC 14 dX4_step_267 rfl (by decide) (by decide) (?_ : SdS X 268 [(0, 14)] [14] _)
      refine su_aload_n hC 14 dX4_step_268 rfl (by decide) (by decide) (?_ : SdS X 269 [(0, 14)] [14, 14] _)
      refine su_getF hC (ci := 4) (j := 4) (C := RX4) (T := TX4) (N := 15) rfl rfl (by decide) in_X4 wl_1_157 rfl dX4_step_269 (?_ : SdS X 272 [(0, 14)] [0, 14] _)
      refine su_aload_n hC 14 dX4_step_272 rfl (by decide) (by decide) (?_ : SdS X 273 [(0, 14)] [14, 0, 14] _)
      refine su_getF hC (ci := 4) (j := 3) (C := RX4) (T := TX4) (N := 15) rfl rfl (by decide) in_X4 wl_1_156 rfl dX4_step_273 (?_ : SdS X 276 [(0, 14)] [0, 0, 14] _)
      refine su_isub hC dX4_step_276 (?_ : SdS X 277 [(0, 14)] [0, 14] _)
      refine su_iconst hC dX4_step_277 ⟨by decide, by decide⟩ (?_ : SdS X 278 [(0, 14)] [0, 0, 14] _)
      refine su_icmp_gt (tgt := 285) hC dX4_step_278 rfl (?_ : SdS X 285 [(0, 14)] [14] _) (?_ : SdS X 281 [(0, 14)] [14] _)
      · refine su_iconst hC dX4_step_285 ⟨by decide, by decide⟩ (?_ : SdS X 286 [(0, 14)] [0, 14] _)
        exact SdS.weak (by decide) (S_286)
      · refine su_iconst hC dX4_step_281 ⟨by decide, by decide⟩ (?_ : SdS X 282 [(0, 14)] [0, 14] _)
        refine su_goto (tgt := 286) hC dX4_step_282 rfl (?_ : SdS X 286 [(0, 14)] [0, 14] _)
        exact SdS.weak (by decide) (S_286)
  have S_180 : SdS X 180 [(0, 14)] [] (L_X4_step_180 Q) := by
    unfold L_X4_step_180
    refine SdS.loop (fun k180 h180 => ?_)
    refine su_aload_n hC 14 dX4_step_180 rfl (by decide) (by decide) (?_ : SdS X 181 [(0, 14)] [14] _)
    refine su_getF hC (ci := 4) (j := 4) (C := RX4) (T := TX4) (N := 15) rfl rfl (by decide) in_X4 wl_1_157 rfl dX4_step_181 (?_ : SdS X 184 [(0, 14)] [0] _)
    refine su_aload_n hC 14 dX4_step_184 rfl (by decide) (by decide) (?_ : SdS X 185 [(0, 14)] [14, 0] _)
    refine su_getF hC (ci := 4) (j := 2) (C := RX4) (T := TX4) (N := 15) rfl rfl (by decide) in_X4 wl_1_155 rfl dX4_step_185 (?_ : SdS X 188 [(0, 14)] [0, 0] _)
    refine su_icmp_ge (tgt := 256) hC dX4_step_188 rfl (?_ : SdS X 256 [(0, 14)] [] _) (?_ : SdS X 191 [(0, 14)] [] _)
    · exact SdS.weak (by decide) (S_256)
    · refine su_aload_n hC 14 dX4_step_191 rfl (by decide) (by decide) (?_ : SdS X 192 [(0, 14)] [14] _)
      refine su_getR hC (ci := 4) (j := 1) (C := RX4) (T := TX4) (N := 15) rfl rfl (by decide) in_X4 wl_1_154 rfl dX4_step_192 (?_ : SdS X 195 [(0, 14)] [100] _)
      refine su_aload_n hC 14 dX4_step_195 rfl (by decide) (by decide) (?_ : SdS X 196 [(0, 14)] [14, 100] _)
      refine su_getF hC (ci := 4) (j := 4) (C := RX4) (T := TX4) (N := 15) rfl rfl (by decide) in_X4 wl_1_157 rfl dX4_step_196 (?_ : SdS X 199 [(0, 14)] [0, 100] _)
      refine su_iaload hC dX4_step_199 (?_ : SdS X 200 [(0, 14)] [0] _)
      refine su_bipush hC dX4_step_200 (by decide) (?_ : SdS X 202 [(0, 14)] [0, 0] _)
      refine su_icmp_lt (tgt := 256) hC dX4_step_202 rfl (?_ : SdS X 256 [(0, 14)] [] _) (?_ : SdS X 205 [(0, 14)] [] _)
      · exact SdS.weak (by decide) (S_256)
      · refine su_aload_n hC 14 dX4_step_205 rfl (by decide) (by decide) (?_ : SdS X 206 [(0, 14)] [14] _)
        refine su_getR hC (ci := 4) (j := 1) (C := RX4) (T := TX4) (N := 15) rfl rfl (by decide) in_X4 wl_1_154 rfl dX4_step_206 (?_ : SdS X 209 [(0, 14)] [100] _)
        refine su_aload_n hC 14 dX4_step_209 rfl (by decide) (by decide) (?_ : SdS X 210 [(0, 14)] [14, 100] _)
        refine su_getF hC (ci := 4) (j := 4) (C := RX4) (T := TX4) (N := 15) rfl rfl (by decide) in_X4 wl_1_157 rfl dX4_step_210 (?_ : SdS X 213 [(0, 14)] [0, 100] _)
        refine su_iaload hC dX4_step_213 (?_ : SdS X 214 [(0, 14)] [0] _)
        refine su_bipush hC dX4_step_214 (by decide) (?_ : SdS X 216 [(0, 14)] [0, 0] _)
        refine su_icmp_gt (tgt := 256) hC dX4_step_216 rfl (?_ : SdS X 256 [(0, 14)] [] _) (?_ : SdS X 219 [(0, 14)] [] _)
        · exact SdS.weak (by decide) (S_256)
        · refine su_aload_n hC 14 dX4_step_219 rfl (by decide) (by decide) (?_ : SdS X 220 [(0, 14)] [14] _)
          refine su_aload_n hC 14 dX4_step_220 rfl (by decide) (by decide) (?_ : SdS X 221 [(0, 14)] [14, 14] _)
          refine su_getF hC (ci := 4) (j := 6) (C := RX4) (T := TX4) (N := 15) rfl rfl (by decide) in_X4 wl_1_159 rfl dX4_step_221 (?_ : SdS X 224 [(0, 14)] [0, 14] _)
          refine su_bipush hC dX4_step_224 (by decide) (?_ : SdS X 226 [(0, 14)] [0, 0, 14] _)
          refine su_imulw hC dX4_step_226 (?_ : SdS X 227 [(0, 14)] [0, 14] _)
          refine su_aload_n hC 14 dX4_step_227 rfl (by decide) (by decide) (?_ : SdS X 228 [(0, 14)] [14, 0, 14] _)
          refine su_getR hC (ci := 4) (j := 1) (C := RX4) (T := TX4) (N := 15) rfl rfl (by decide) in_X4 wl_1_154 rfl dX4_step_228 (?_ : SdS X 231 [(0, 14)] [100, 0, 14] _)
          refine su_aload_n hC 14 dX4_step_231 rfl (by decide) (by decide) (?_ : SdS X 232 [(0, 14)] [14, 100, 0, 14] _)
          refine su_getF hC (ci := 4) (j := 4) (C := RX4) (T := TX4) (N := 15) rfl rfl (by decide) in_X4 wl_1_157 rfl dX4_step_232 (?_ : SdS X 235 [(0, 14)] [0, 100, 0, 14] _)
          refine su_iaload hC dX4_step_235 (?_ : SdS X 236 [(0, 14)] [0, 0, 14] _)
          refine su_iaddw hC dX4_step_236 (?_ : SdS X 237 [(0, 14)] [0, 14] _)
          refine su_bipush hC dX4_step_237 (by decide) (?_ : SdS X 239 [(0, 14)] [0, 0, 14] _)
          refine su_isubw hC dX4_step_239 (?_ : SdS X 240 [(0, 14)] [0, 14] _)
          refine su_putF hC (ci := 4) (j := 6) (C := RX4) (T := TX4) (N := 15) tyX4 tyX4_ok nmX4 rfl rfl (by decide) in_X4 rfl rfl wl_1_159 rfl dX4_step_240 (?_ : SdS X 243 [(0, 14)] [] _)
          refine su_aload_n hC 14 dX4_step_243 rfl (by decide) (by decide) (?_ : SdS X 244 [(0, 14)] [14] _)
          refine su_dup hC (by decide) dX4_step_244 (?_ : SdS X 245 [(0, 14)] [14, 14] _)
          refine su_getF hC (ci := 4) (j := 4) (C := RX4) (T := TX4) (N := 15) rfl rfl (by decide) in_X4 wl_1_157 rfl dX4_step_245 (?_ : SdS X 248 [(0, 14)] [0, 14] _)
          refine su_iconst hC dX4_step_248 ⟨by decide, by decide⟩ (?_ : SdS X 249 [(0, 14)] [0, 0, 14] _)
          refine su_iadd hC dX4_step_249 (?_ : SdS X 250 [(0, 14)] [0, 14] _)
          refine su_putF hC (ci := 4) (j := 4) (C := RX4) (T := TX4) (N := 15) tyX4 tyX4_ok nmX4 rfl rfl (by decide) in_X4 rfl rfl wl_1_157 rfl dX4_step_250 (?_ : SdS X 253 [(0, 14)] [] _)
          refine su_goto (tgt := 180) hC dX4_step_253 rfl (?_ : SdS X 180 [(0, 14)] [] _)
          exact SdS.weak (by decide) h180
  have S_171 : SdS X 171 [(0, 14)] [0, 14] (B_X4_step_171 Q) := by
    unfold B_X4_step_171
    refine su_putF hC (ci := 4) (j := 5) (C := RX4) (T := TX4) (N := 15) tyX4 tyX4_ok nmX4 rfl rfl (by decide) in_X4 rfl rfl wl_1_158 rfl dX4_step_171 (?_ : SdS X 174 [(0, 14)] [] _)
    exact su_return hC hT dX4_step_174
  have S_140 : SdS X 140 [(0, 14)] [] (B_X4_step_140 Q) := by
    unfold B_X4_step_140
    refine su_aload_n hC 14 dX4_step_140 rfl (by decide) (by decide) (?_ : SdS X 141 [(0, 14)] [14] _)
    refine su_getF hC (ci := 4) (j := 4) (C := RX4) (T := TX4) (N := 15) rfl rfl (by decide) in_X4 wl_1_157 rfl dX4_step_141 (?_ : SdS X 144 [(0, 14)] [0] _)
    refine su_aload_n hC 14 dX4_step_144 rfl (by decide) (by decide) (?_ : SdS X 145 [(0, 14)] [14, 0] _)
    refine su_getF hC (ci := 4) (j := 3) (C := RX4) (T := TX4) (N := 15) rfl rfl (by decide) in_X4 wl_1_156 rfl dX4_step_145 (?_ : SdS X 148 [(0, 14)] [0, 0] _)
    refine su_icmp_le (tgt := 175) hC dX4_step_148 rfl (?_ : SdS X 175 [(0, 14)] [] _) (?_ : SdS X 151 [(0, 14)] [] _)
    · refine su_aload_n hC 14 dX4_step_175 rfl (by decide) (by decide) (?_ : SdS X 176 [(0, 14)] [14] _)
      refine su_iconst hC dX4_step_176 ⟨by decide, by decide⟩ (?_ : SdS X 177 [(0, 14)] [0, 14] _)
      refine su_putF hC (ci := 4) (j := 6) (C := RX4) (T := TX4) (N := 15) tyX4 tyX4_ok nmX4 rfl rfl (by decide) in_X4 rfl rfl wl_1_159 rfl dX4_step_177 (?_ : SdS X 180 [(0, 14)] [] _)
      exact SdS.weak (by decide) (S_180)
    · refine su_aload_n hC 14 dX4_step_151 rfl (by decide) (by decide) (?_ : SdS X 152 [(0, 14)] [14] _)
      refine su_aload_n hC 14 dX4_step_152 rfl (by decide) (by decide) (?_ : SdS X 153 [(0, 14)] [14, 14] _)
      refine su_getF hC (ci := 4) (j := 4) (C := RX4) (T := TX4) (N := 15) rfl rfl (by decide) in_X4 wl_1_157 rfl dX4_step_153 (?_ : SdS X 156 [(0, 14)] [0, 14] _)
      refine su_aload_n hC 14 dX4_step_156 rfl (by decide) (by decide) (?_ : SdS X 157 [(0, 14)] [14, 0, 14] _)
      refine su_getF hC (ci := 4) (j := 3) (C := RX4) (T := TX4) (N := 15) rfl rfl (by decide) in_X4 wl_1_156 rfl dX4_step_157 (?_ : SdS X 160 [(0, 14)] [0, 0, 14] _)
      refine su_isub hC dX4_step_160 (?_ : SdS X 161 [(0, 14)] [0, 14] _)
      refine su_bipush hC dX4_step_161 (by decide) (?_ : SdS X 163 [(0, 14)] [0, 0, 14] _)
      refine su_icmp_gt (tgt := 170) hC dX4_step_163 rfl (?_ : SdS X 170 [(0, 14)] [14] _) (?_ : SdS X 166 [(0, 14)] [14] _)
      · refine su_iconst hC dX4_step_170 ⟨by decide, by decide⟩ (?_ : SdS X 171 [(0, 14)] [0, 14] _)
        exact SdS.weak (by decide) (S_171)
      · refine su_iconst hC dX4_step_166 ⟨by decide, by decide⟩ (?_ : SdS X 167 [(0, 14)] [0, 14] _)
        refine su_goto (tgt := 171) hC dX4_step_167 rfl (?_ : SdS X 171 [(0, 14)] [0, 14] _)
        exact SdS.weak (by decide) (S_171)
  have S_59 : SdS X 59 [(0, 14)] [] (L_X4_step_59 Q) := by
    unfold L_X4_step_59
    refine SdS.loop (fun k59 h59 => ?_)
    refine su_aload_n hC 14 dX4_step_59 rfl (by decide) (by decide) (?_ : SdS X 60 [(0, 14)] [14] _)
    refine su_getF hC (ci := 4) (j := 4) (C := RX4) (T := TX4) (N := 15) rfl rfl (by decide) in_X4 wl_1_157 rfl dX4_step_60 (?_ : SdS X 63 [(0, 14)] [0] _)
    refine su_aload_n hC 14 dX4_step_63 rfl (by decide) (by decide) (?_ : SdS X 64 [(0, 14)] [14, 0] _)
    refine su_getF hC (ci := 4) (j := 2) (C := RX4) (T := TX4) (N := 15) rfl rfl (by decide) in_X4 wl_1_155 rfl dX4_step_64 (?_ : SdS X 67 [(0, 14)] [0, 0] _)
    refine su_icmp_ge (tgt := 140) hC dX4_step_67 rfl (?_ : SdS X 140 [(0, 14)] [] _) (?_ : SdS X 70 [(0, 14)] [] _)
    · exact SdS.weak (by decide) (S_140)
    · refine su_aload_n hC 14 dX4_step_70 rfl (by decide) (by decide) (?_ : SdS X 71 [(0, 14)] [14] _)
      refine su_getR hC (ci := 4) (j := 1) (C := RX4) (T := TX4) (N := 15) rfl rfl (by decide) in_X4 wl_1_154 rfl dX4_step_71 (?_ : SdS X 74 [(0, 14)] [100] _)
      refine su_aload_n hC 14 dX4_step_74 rfl (by decide) (by decide) (?_ : SdS X 75 [(0, 14)] [14, 100] _)
      refine su_getF hC (ci := 4) (j := 4) (C := RX4) (T := TX4) (N := 15) rfl rfl (by decide) in_X4 wl_1_157 rfl dX4_step_75 (?_ : SdS X 78 [(0, 14)] [0, 100] _)
      refine su_iaload hC dX4_step_78 (?_ : SdS X 79 [(0, 14)] [0] _)
      refine su_bipush hC dX4_step_79 (by decide) (?_ : SdS X 81 [(0, 14)] [0, 0] _)
      refine su_icmp_lt (tgt := 140) hC dX4_step_81 rfl (?_ : SdS X 140 [(0, 14)] [] _) (?_ : SdS X 84 [(0, 14)] [] _)
      · exact SdS.weak (by decide) (S_140)
      · refine su_aload_n hC 14 dX4_step_84 rfl (by decide) (by decide) (?_ : SdS X 85 [(0, 14)] [14] _)
        refine su_getR hC (ci := 4) (j := 1) (C := RX4) (T := TX4) (N := 15) rfl rfl (by decide) in_X4 wl_1_154 rfl dX4_step_85 (?_ : SdS X 88 [(0, 14)] [100] _)
        refine su_aload_n hC 14 dX4_step_88 rfl (by decide) (by decide) (?_ : SdS X 89 [(0, 14)] [14, 100] _)
        refine su_getF hC (ci := 4) (j := 4) (C := RX4) (T := TX4) (N := 15) rfl rfl (by decide) in_X4 wl_1_157 rfl dX4_step_89 (?_ : SdS X 92 [(0, 14)] [0, 100] _)
        refine su_iaload hC dX4_step_92 (?_ : SdS X 93 [(0, 14)] [0] _)
        refine su_bipush hC dX4_step_93 (by decide) (?_ : SdS X 95 [(0, 14)] [0, 0] _)
        refine su_icmp_gt (tgt := 140) hC dX4_step_95 rfl (?_ : SdS X 140 [(0, 14)] [] _) (?_ : SdS X 98 [(0, 14)] [] _)
        · exact SdS.weak (by decide) (S_140)
        · refine su_aload_n hC 14 dX4_step_98 rfl (by decide) (by decide) (?_ : SdS X 99 [(0, 14)] [14] _)
          refine su_aload_n hC 14 dX4_step_99 rfl (by decide) (by decide) (?_ : SdS X 100 [(0, 14)] [14, 14] _)
          refine su_getF hC (ci := 4) (j := 7) (C := RX4) (T := TX4) (N := 15) rfl rfl (by decide) in_X4 wl_1_160 rfl dX4_step_100 (?_ : SdS X 103 [(0, 14)] [1, 14] _)
          refine su_ldc2 hC wl_2_194 dX4_step_103 ⟨by decide, by decide⟩ (?_ : SdS X 106 [(0, 14)] [1, 1, 14] _)
          refine su_lmulw hC dX4_step_106 (?_ : SdS X 107 [(0, 14)] [1, 14] _)
          refine su_aload_n hC 14 dX4_step_107 rfl (by decide) (by decide) (?_ : SdS X 108 [(0, 14)] [14, 1, 14] _)
          refine su_getR hC (ci := 4) (j := 1) (C := RX4) (T := TX4) (N := 15) rfl rfl (by decide) in_X4 wl_1_154 rfl dX4_step_108 (?_ : SdS X 111 [(0, 14)] [100, 1, 14] _)
          refine su_aload_n hC 14 dX4_step_111 rfl (by decide) (by decide) (?_ : SdS X 112 [(0, 14)] [14, 100, 1, 14] _)
          refine su_getF hC (ci := 4) (j := 4) (C := RX4) (T := TX4) (N := 15) rfl rfl (by decide) in_X4 wl_1_157 rfl dX4_step_112 (?_ : SdS X 115 [(0, 14)] [0, 100, 1, 14] _)
          refine su_iaload hC dX4_step_115 (?_ : SdS X 116 [(0, 14)] [0, 1, 14] _)
          refine su_i2l hC dX4_step_116 (?_ : SdS X 117 [(0, 14)] [1, 1, 14] _)
          refine su_laddw hC dX4_step_117 (?_ : SdS X 118 [(0, 14)] [1, 14] _)
          refine su_ldc2 hC wl_2_195 dX4_step_118 ⟨by decide, by decide⟩ (?_ : SdS X 121 [(0, 14)] [1, 1, 14] _)
          refine su_lsubw hC dX4_step_121 (?_ : SdS X 122 [(0, 14)] [1, 14] _)
          refine su_lconst hC rfl dX4_step_122 (?_ : SdS X 123 [(0, 14)] [1, 1, 14] _)
          refine su_laddw hC dX4_step_123 (?_ : SdS X 124 [(0, 14)] [1, 14] _)
          refine su_putF hC (ci := 4) (j := 7) (C := RX4) (T := TX4) (N := 15) tyX4 tyX4_ok nmX4 rfl rfl (by decide) in_X4 rfl rfl wl_1_160 rfl dX4_step_124 (?_ : SdS X 127 [(0, 14)] [] _)
          refine su_aload_n hC 14 dX4_step_127 rfl (by decide) (by decide) (?_ : SdS X 128 [(0, 14)] [14] _)
          refine su_dup hC (by decide) dX4_step_128 (?_ : SdS X 129 [(0, 14)] [14, 14] _)
          refine su_getF hC (ci := 4) (j := 4) (C := RX4) (T := TX4) (N := 15) rfl rfl (by decide) in_X4 wl_1_157 rfl dX4_step_129 (?_ : SdS X 132 [(0, 14)] [0, 14] _)
          refine su_iconst hC dX4_step_132 ⟨by decide, by decide⟩ (?_ : SdS X 133 [(0, 14)] [0, 0, 14] _)
          refine su_iadd hC dX4_step_133 (?_ : SdS X 134 [(0, 14)] [0, 14] _)
          refine su_putF hC (ci := 4) (j := 4) (C := RX4) (T := TX4) (N := 15) tyX4 tyX4_ok nmX4 rfl rfl (by decide) in_X4 rfl rfl wl_1_157 rfl dX4_step_134 (?_ : SdS X 137 [(0, 14)] [] _)
          refine su_goto (tgt := 59) hC dX4_step_137 rfl (?_ : SdS X 59 [(0, 14)] [] _)
          exact SdS.weak (by decide) h59
  have S_46 : SdS X 46 [(0, 14)] [] (B_X4_step_46 Q) := by
    unfold B_X4_step_46
    refine su_aload_n hC 14 dX4_step_46 rfl (by decide) (by decide) (?_ : SdS X 47 [(0, 14)] [14] _)
    refine su_aload_n hC 14 dX4_step_47 rfl (by decide) (by decide) (?_ : SdS X 48 [(0, 14)] [14, 14] _)
    refine su_getF hC (ci := 4) (j := 3) (C := RX4) (T := TX4) (N := 15) rfl rfl (by decide) in_X4 wl_1_156 rfl dX4_step_48 (?_ : SdS X 51 [(0, 14)] [0, 14] _)
    refine su_putF hC (ci := 4) (j := 4) (C := RX4) (T := TX4) (N := 15) tyX4 tyX4_ok nmX4 rfl rfl (by decide) in_X4 rfl rfl wl_1_157 rfl dX4_step_51 (?_ : SdS X 54 [(0, 14)] [] _)
    refine su_aload_n hC 14 dX4_step_54 rfl (by decide) (by decide) (?_ : SdS X 55 [(0, 14)] [14] _)
    refine su_lconst hC rfl dX4_step_55 (?_ : SdS X 56 [(0, 14)] [1, 14] _)
    refine su_putF hC (ci := 4) (j := 7) (C := RX4) (T := TX4) (N := 15) tyX4 tyX4_ok nmX4 rfl rfl (by decide) in_X4 rfl rfl wl_1_160 rfl dX4_step_56 (?_ : SdS X 59 [(0, 14)] [] _)
    exact SdS.weak (by decide) (S_59)
  have S_8 : SdS X 8 [(0, 14)] [] (L_X4_step_8 Q) := by
    unfold L_X4_step_8
    refine SdS.loop (fun k8 h8 => ?_)
    refine su_aload_n hC 14 dX4_step_8 rfl (by decide) (by decide) (?_ : SdS X 9 [(0, 14)] [14] _)
    refine su_getF hC (ci := 4) (j := 3) (C := RX4) (T := TX4) (N := 15) rfl rfl (by decide) in_X4 wl_1_156 rfl dX4_step_9 (?_ : SdS X 12 [(0, 14)] [0] _)
    refine su_aload_n hC 14 dX4_step_12 rfl (by decide) (by decide) (?_ : SdS X 13 [(0, 14)] [14, 0] _)
    refine su_getF hC (ci := 4) (j := 2) (C := RX4) (T := TX4) (N := 15) rfl rfl (by decide) in_X4 wl_1_155 rfl dX4_step_13 (?_ : SdS X 16 [(0, 14)] [0, 0] _)
    refine su_icmp_ge (tgt := 46) hC dX4_step_16 rfl (?_ : SdS X 46 [(0, 14)] [] _) (?_ : SdS X 19 [(0, 14)] [] _)
    · exact SdS.weak (by decide) (S_46)
    · refine su_aload_n hC 14 dX4_step_19 rfl (by decide) (by decide) (?_ : SdS X 20 [(0, 14)] [14] _)
      refine su_getR hC (ci := 4) (j := 1) (C := RX4) (T := TX4) (N := 15) rfl rfl (by decide) in_X4 wl_1_154 rfl dX4_step_20 (?_ : SdS X 23 [(0, 14)] [100] _)
      refine su_aload_n hC 14 dX4_step_23 rfl (by decide) (by decide) (?_ : SdS X 24 [(0, 14)] [14, 100] _)
      refine su_getF hC (ci := 4) (j := 3) (C := RX4) (T := TX4) (N := 15) rfl rfl (by decide) in_X4 wl_1_156 rfl dX4_step_24 (?_ : SdS X 27 [(0, 14)] [0, 100] _)
      refine su_iaload hC dX4_step_27 (?_ : SdS X 28 [(0, 14)] [0] _)
      refine su_bipush hC dX4_step_28 (by decide) (?_ : SdS X 30 [(0, 14)] [0, 0] _)
      refine su_icmp_ne (tgt := 46) hC dX4_step_30 rfl (?_ : SdS X 46 [(0, 14)] [] _) (?_ : SdS X 33 [(0, 14)] [] _)
      · exact SdS.weak (by decide) (S_46)
      · refine su_aload_n hC 14 dX4_step_33 rfl (by decide) (by decide) (?_ : SdS X 34 [(0, 14)] [14] _)
        refine su_dup hC (by decide) dX4_step_34 (?_ : SdS X 35 [(0, 14)] [14, 14] _)
        refine su_getF hC (ci := 4) (j := 3) (C := RX4) (T := TX4) (N := 15) rfl rfl (by decide) in_X4 wl_1_156 rfl dX4_step_35 (?_ : SdS X 38 [(0, 14)] [0, 14] _)
        refine su_iconst hC dX4_step_38 ⟨by decide, by decide⟩ (?_ : SdS X 39 [(0, 14)] [0, 0, 14] _)
        refine su_iadd hC dX4_step_39 (?_ : SdS X 40 [(0, 14)] [0, 14] _)
        refine su_putF hC (ci := 4) (j := 3) (C := RX4) (T := TX4) (N := 15) tyX4 tyX4_ok nmX4 rfl rfl (by decide) in_X4 rfl rfl wl_1_156 rfl dX4_step_40 (?_ : SdS X 43 [(0, 14)] [] _)
        refine su_goto (tgt := 8) hC dX4_step_43 rfl (?_ : SdS X 8 [(0, 14)] [] _)
        exact SdS.weak (by decide) h8
  refine (?_ : SdS X 0 [(0, 14)] [] (E_X4_step Q))
  unfold E_X4_step
  refine su_aload_n hC 14 dX4_step_0 rfl (by decide) (by decide) (?_ : SdS X 1 [(0, 14)] [14] _)
  refine su_aload_n hC 14 dX4_step_1 rfl (by decide) (by decide) (?_ : SdS X 2 [(0, 14)] [14, 14] _)
  refine su_getF hC (ci := 4) (j := 4) (C := RX4) (T := TX4) (N := 15) rfl rfl (by decide) in_X4 wl_1_157 rfl dX4_step_2 (?_ : SdS X 5 [(0, 14)] [0, 14] _)
  refine su_putF hC (ci := 4) (j := 3) (C := RX4) (T := TX4) (N := 15) tyX4 tyX4_ok nmX4 rfl rfl (by decide) in_X4 rfl rfl wl_1_156 rfl dX4_step_5 (?_ : SdS X 8 [(0, 14)] [] _)
  exact SdS.weak (by decide) (S_8)
theorem wl_2_205 : Cond.methodLink RX4 81 yJ0_length_8abf5 ∈ WALL := tb2 (List.mem_of_getElem? (i := 205) rfl) rfl
theorem wl_2_215 : Cond.methodLink RX4 86 yJ0_charAt_5068e ∈ WALL := tb2 (List.mem_of_getElem? (i := 215) rfl) rfl
theorem hd_X4_isWord : yX4_isWord.cls ≠ "java/lang/invoke/MethodHandle" ∧ yX4_isWord.cls ≠ "java/lang/invoke/VarHandle" ∧ (parseMethodDescriptor yX4_isWord.desc).map (fun d => d.parameters.length) = some 1 := by decide +kernel
set_option maxRecDepth 100000 in
set_option maxHeartbeats 4000000 in
theorem M_X4_isWord (l : Launch) : MtS l yX4_isWord (Cond.code yX4_isWord cX4_isWord 3 (some .boolean) :: WALL) { frames := 4, cells := 0, slots := 0, locals := 85 } [14, 5] (some 0) T_X4_isWord := by
  refine MtS.mk (B := E_X4_isWord) (by decide +kernel) (by decide) (fun _ _ _ hh => hh) ?_
  intro X Q e1 e2 e3 hC hN hT
  subst e1
  have hC : CF X cX4_isWord RX4 WALL := hC
  have S_24 : SdS X 24 [(0, 14), (1, 5)] [] (B_X4_isWord_24 Q) := by
    unfold B_X4_isWord_24
    refine su_iconst hC dX4_isWord_24 ⟨by decide, by decide⟩ (?_ : SdS X 25 [(0, 14), (1, 5)] [0] _)
    exact su_zreturn hC hT dX4_isWord_25
  have S_76 : SdS X 76 [(0, 14), (1, 5), (2, 0)] [] (B_X4_isWord_76 Q) := by
    unfold B_X4_isWord_76
    refine su_iconst hC dX4_isWord_76 ⟨by decide, by decide⟩ (?_ : SdS X 77 [(0, 14), (1, 5), (2, 0)] [0] _)
    exact su_zreturn hC hT dX4_isWord_77
  have S_28 : SdS X 28 [(0, 14), (1, 5), (2, 0)] [] (L_X4_isWord_28 Q) := by
    unfold L_X4_isWord_28
    refine SdS.loop (fun k28 h28 => ?_)
    refine su_iload_n hC dX4_isWord_28 rfl (by decide) (?_ : SdS X 29 [(0, 14), (1, 5), (2, 0)] [0] _)
    refine su_aload_n hC 5 dX4_isWord_29 rfl (by decide) (by decide) (?_ : SdS X 30 [(0, 14), (1, 5), (2, 0)] [5, 0] _)
    refine su_invT (τ := [0]) (τr := []) hC WG (M_J0_length_8abf5 _) rfl rfl rfl rfl rfl wl_2_205 wl_2_206 wl_2_207 wl_1_12 wl_2_208 hd_J0_length_8abf5 (by rw [e3]; decide) (by decide) dX4_isWord_30 (?_ : SdS X 33 [(0, 14), (1, 5), (2, 0)] [0, 0] _)
    refine su_icmp_ge (tgt := 76) hC dX4_isWord_33 rfl (?_ : SdS X 76 [(0, 14), (1, 5), (2, 0)] [] _) (?_ : SdS X 36 [(0, 14), (1, 5), (2, 0)] [] _)
    · exact SdS.weak (by decide) (S_76)
    · refine su_aload_n hC 14 dX4_isWord_36 rfl (by decide) (by decide) (?_ : SdS X 37 [(0, 14), (1, 5), (2, 0)] [14] _)
      refine su_getF hC (ci := 4) (j := 3) (C := RX4) (T := TX4) (N := 15) rfl rfl (by decide) in_X4 wl_1_156 rfl dX4_isWord_37 (?_ : SdS X 40 [(0, 14), (1, 5), (2, 0)] [0] _)
      refine su_iload_n hC dX4_isWord_40 rfl (by decide) (?_ : SdS X 41 [(0, 14), (1, 5), (2, 0)] [0, 0] _)
      refine su_iadd hC dX4_isWord_41 (?_ : SdS X 42 [(0, 14), (1, 5), (2, 0)] [0] _)
      refine su_aload_n hC 14 dX4_isWord_42 rfl (by decide) (by decide) (?_ : SdS X 43 [(0, 14), (1, 5), (2, 0)] [14, 0] _)
      refine su_getF hC (ci := 4) (j := 2) (C := RX4) (T := TX4) (N := 15) rfl rfl (by decide) in_X4 wl_1_155 rfl dX4_isWord_43 (?_ : SdS X 46 [(0, 14), (1, 5), (2, 0)] [0, 0] _)
      refine su_icmp_ge (tgt := 76) hC dX4_isWord_46 rfl (?_ : SdS X 76 [(0, 14), (1, 5), (2, 0)] [] _) (?_ : SdS X 49 [(0, 14), (1, 5), (2, 0)] [] _)
      · exact SdS.weak (by decide) (S_76)
      · refine su_aload_n hC 14 dX4_isWord_49 rfl (by decide) (by decide) (?_ : SdS X 50 [(0, 14), (1, 5), (2, 0)] [14] _)
        refine su_getR hC (ci := 4) (j := 1) (C := RX4) (T := TX4) (N := 15) rfl rfl (by decide) in_X4 wl_1_154 rfl dX4_isWord_50 (?_ : SdS X 53 [(0, 14), (1, 5), (2, 0)] [100] _)
        refine su_aload_n hC 14 dX4_isWord_53 rfl (by decide) (by decide) (?_ : SdS X 54 [(0, 14), (1, 5), (2, 0)] [14, 100] _)
        refine su_getF hC (ci := 4) (j := 3) (C := RX4) (T := TX4) (N := 15) rfl rfl (by decide) in_X4 wl_1_156 rfl dX4_isWord_54 (?_ : SdS X 57 [(0, 14), (1, 5), (2, 0)] [0, 100] _)
        refine su_iload_n hC dX4_isWord_57 rfl (by decide) (?_ : SdS X 58 [(0, 14), (1, 5), (2, 0)] [0, 0, 100] _)
        refine su_iadd hC dX4_isWord_58 (?_ : SdS X 59 [(0, 14), (1, 5), (2, 0)] [0, 100] _)
        refine su_iaload hC dX4_isWord_59 (?_ : SdS X 60 [(0, 14), (1, 5), (2, 0)] [0] _)
        refine su_aload_n hC 5 dX4_isWord_60 rfl (by decide) (by decide) (?_ : SdS X 61 [(0, 14), (1, 5), (2, 0)] [5, 0] _)
        refine su_iload_n hC dX4_isWord_61 rfl (by decide) (?_ : SdS X 62 [(0, 14), (1, 5), (2, 0)] [0, 5, 0] _)
        refine su_invT (τ := [0]) (τr := [0]) hC WG (M_J0_charAt_5068e _) rfl rfl rfl rfl rfl wl_2_215 wl_2_216 wl_2_217 wl_1_12 wl_2_218 hd_J0_charAt_5068e (by rw [e3]; decide) (by decide) dX4_isWord_62 (?_ : SdS X 65 [(0, 14), (1, 5), (2, 0)] [0, 0] _)
        refine su_icmp_eq (tgt := 70) hC dX4_isWord_65 rfl (?_ : SdS X 70 [(0, 14), (1, 5), (2, 0)] [] _) (?_ : SdS X 68 [(0, 14), (1, 5), (2, 0)] [] _)
        · refine su_iinc (Γ' := [(0, 14), (1, 5), (2, 0)]) hC dX4_isWord_70 (by decide) (by rw [e2]; decide) (by decide) (?_ : SdS X 73 [(0, 14), (1, 5), (2, 0)] [] _)
          refine su_goto (tgt := 28) hC dX4_isWord_73 rfl (?_ : SdS X 28 [(0, 14), (1, 5), (2, 0)] [] _)
          exact SdS.weak (by decide) h28
        · refine su_iconst hC dX4_isWord_68 ⟨by decide, by decide⟩ (?_ : SdS X 69 [(0, 14), (1, 5), (2, 0)] [0] _)
          exact su_zreturn hC hT dX4_isWord_69
  refine (?_ : SdS X 0 [(0, 14), (1, 5)] [] (E_X4_isWord Q))
  unfold E_X4_isWord
  refine su_aload_n hC 14 dX4_isWord_0 rfl (by decide) (by decide) (?_ : SdS X 1 [(0, 14), (1, 5)] [14] _)
  refine su_getF hC (ci := 4) (j := 5) (C := RX4) (T := TX4) (N := 15) rfl rfl (by decide) in_X4 wl_1_158 rfl dX4_isWord_1 (?_ : SdS X 4 [(0, 14), (1, 5)] [0] _)
  refine su_iconst hC dX4_isWord_4 ⟨by decide, by decide⟩ (?_ : SdS X 5 [(0, 14), (1, 5)] [0, 0] _)
  refine su_icmp_ne (tgt := 24) hC dX4_isWord_5 rfl (?_ : SdS X 24 [(0, 14), (1, 5)] [] _) (?_ : SdS X 8 [(0, 14), (1, 5)] [] _)
  · exact SdS.weak (by decide) (S_24)
  · refine su_aload_n hC 14 dX4_isWord_8 rfl (by decide) (by decide) (?_ : SdS X 9 [(0, 14), (1, 5)] [14] _)
    refine su_getF hC (ci := 4) (j := 4) (C := RX4) (T := TX4) (N := 15) rfl rfl (by decide) in_X4 wl_1_157 rfl dX4_isWord_9 (?_ : SdS X 12 [(0, 14), (1, 5)] [0] _)
    refine su_aload_n hC 14 dX4_isWord_12 rfl (by decide) (by decide) (?_ : SdS X 13 [(0, 14), (1, 5)] [14, 0] _)
    refine su_getF hC (ci := 4) (j := 3) (C := RX4) (T := TX4) (N := 15) rfl rfl (by decide) in_X4 wl_1_156 rfl dX4_isWord_13 (?_ : SdS X 16 [(0, 14), (1, 5)] [0, 0] _)
    refine su_isub hC dX4_isWord_16 (?_ : SdS X 17 [(0, 14), (1, 5)] [0] _)
    refine su_aload_n hC 5 dX4_isWord_17 rfl (by decide) (by decide) (?_ : SdS X 18 [(0, 14), (1, 5)] [5, 0] _)
    refine su_invT (τ := [0]) (τr := []) hC WG (M_J0_length_8abf5 _) rfl rfl rfl rfl rfl wl_2_205 wl_2_206 wl_2_207 wl_1_12 wl_2_208 hd_J0_length_8abf5 (by rw [e3]; decide) (by decide) dX4_isWord_18 (?_ : SdS X 21 [(0, 14), (1, 5)] [0, 0] _)
    refine su_icmp_eq (tgt := 26) hC dX4_isWord_21 rfl (?_ : SdS X 26 [(0, 14), (1, 5)] [] _) (?_ : SdS X 24 [(0, 14), (1, 5)] [] _)
    · refine su_iconst hC dX4_isWord_26 ⟨by decide, by decide⟩ (?_ : SdS X 27 [(0, 14), (1, 5)] [0] _)
      refine su_istore_n (Γ' := [(0, 14), (1, 5), (2, 0)]) hC dX4_isWord_27 rfl (by rw [e2]; decide) (by decide) (?_ : SdS X 28 [(0, 14), (1, 5), (2, 0)] [] _)
      exact SdS.weak (by decide) (S_28)
    · exact SdS.weak (by decide) (S_24)
theorem wl_2_201 : Cond.methodLink RX4 91 yX4_isWord ∈ WALL := tb2 (List.mem_of_getElem? (i := 201) rfl) rfl
theorem wl_2_203 : Cond.instanceMethod yX4_isWord ∈ WALL := tb2 (List.mem_of_getElem? (i := 203) rfl) rfl
theorem wp_4 : Cond.selects RX4 yX4_isWord yX4_isWord ∈ WALL := tbS (List.mem_of_getElem? (i := 4) rfl)
theorem wl_2_204 : Cond.code yX4_isWord cX4_isWord 3 (some .boolean) ∈ WALL := tb2 (List.mem_of_getElem? (i := 204) rfl) rfl
theorem hd_X4_isName : yX4_isName.cls ≠ "java/lang/invoke/MethodHandle" ∧ yX4_isName.cls ≠ "java/lang/invoke/VarHandle" ∧ (parseMethodDescriptor yX4_isName.desc).map (fun d => d.parameters.length) = some 0 := by decide +kernel
set_option maxRecDepth 100000 in
set_option maxHeartbeats 4000000 in
theorem M_X4_isName (l : Launch) : MtS l yX4_isName (Cond.code yX4_isName cX4_isName 2 (some .boolean) :: WALL) { frames := 5, cells := 0, slots := 0, locals := 107 } [14] (some 0) T_X4_isName := by
  refine MtS.mk (B := E_X4_isName) (by decide +kernel) (by decide) (fun _ _ _ hh => hh) ?_
  intro X Q e1 e2 e3 hC hN hT
  subst e1
  have hC : CF X cX4_isName RX4 WALL := hC
  have S_104 : SdS X 104 [(0, 14), (1, 0)] [0] (B_X4_isName_104 Q) := by
    unfold B_X4_isName_104
    exact su_zreturn hC hT dX4_isName_104
  have S_103 : SdS X 103 [(0, 14), (1, 0)] [] (B_X4_isName_103 Q) := by
    unfold B_X4_isName_103
    refine su_iconst hC dX4_isName_103 ⟨by decide, by decide⟩ (?_ : SdS X 104 [(0, 14), (1, 0)] [0] _)
    exact SdS.weak (by decide) (S_104)
  have S_86 : SdS X 86 [(0, 14)] [0] (B_X4_isName_86 Q) := by
    unfold B_X4_isName_86
    refine su_istore_n (Γ' := [(0, 14), (1, 0)]) hC dX4_isName_86 rfl (by rw [e2]; decide) (by decide) (?_ : SdS X 87 [(0, 14), (1, 0)] [] _)
    refine su_aload_n hC 14 dX4_isName_87 rfl (by decide) (by decide) (?_ : SdS X 88 [(0, 14), (1, 0)] [14] _)
    refine su_getF hC (ci := 4) (j := 5) (C := RX4) (T := TX4) (N := 15) rfl rfl (by decide) in_X4 wl_1_158 rfl dX4_isName_88 (?_ : SdS X 91 [(0, 14), (1, 0)] [0] _)
    refine su_iconst hC dX4_isName_91 ⟨by decide, by decide⟩ (?_ : SdS X 92 [(0, 14), (1, 0)] [0, 0] _)
    refine su_icmp_ne (tgt := 103) hC dX4_isName_92 rfl (?_ : SdS X 103 [(0, 14), (1, 0)] [] _) (?_ : SdS X 95 [(0, 14), (1, 0)] [] _)
    · exact SdS.weak (by decide) (S_103)
    · refine su_iload_n hC dX4_isName_95 rfl (by decide) (?_ : SdS X 96 [(0, 14), (1, 0)] [0] _)
      refine su_if_ne (tgt := 103) hC dX4_isName_96 rfl (?_ : SdS X 103 [(0, 14), (1, 0)] [] _) (?_ : SdS X 99 [(0, 14), (1, 0)] [] _)
      · exact SdS.weak (by decide) (S_103)
      · refine su_iconst hC dX4_isName_99 ⟨by decide, by decide⟩ (?_ : SdS X 100 [(0, 14), (1, 0)] [0] _)
        refine su_goto (tgt := 104) hC dX4_isName_100 rfl (?_ : SdS X 104 [(0, 14), (1, 0)] [0] _)
        exact SdS.weak (by decide) (S_104)
  have S_81 : SdS X 81 [(0, 14)] [] (B_X4_isName_81 Q) := by
    unfold B_X4_isName_81
    refine su_iconst hC dX4_isName_81 ⟨by decide, by decide⟩ (?_ : SdS X 82 [(0, 14)] [0] _)
    refine su_goto (tgt := 86) hC dX4_isName_82 rfl (?_ : SdS X 86 [(0, 14)] [0] _)
    exact SdS.weak (by decide) (S_86)
  refine (?_ : SdS X 0 [(0, 14)] [] (E_X4_isName Q))
  unfold E_X4_isName
  refine su_aload_n hC 14 dX4_isName_0 rfl (by decide) (by decide) (?_ : SdS X 1 [(0, 14)] [14] _)
  refine su_ldcS hC (tx0 := "rings") (i := 0) rfl (by decide) (by decide) dX4_isName_1 (?_ : SdS X 3 [(0, 14)] [5, 14] _)
  refine su_inv0 (τ := []) (τr := [5]) (ci := 4) (q := (RX4, TX4, 15)) hC WG (M_X4_isWord _) rfl rfl rfl rfl  rfl rfl wl_2_201 wl_2_203 wp_4 wl_1_4 wl_2_204 hd_X4_isWord (by rw [e3]; decide) (by decide) dX4_isName_3 (?_ : SdS X 6 [(0, 14)] [0] _)
  refine su_if_ne (tgt := 81) hC dX4_isName_6 rfl (?_ : SdS X 81 [(0, 14)] [] _) (?_ : SdS X 9 [(0, 14)] [] _)
  · exact SdS.weak (by decide) (S_81)
  · refine su_aload_n hC 14 dX4_isName_9 rfl (by decide) (by decide) (?_ : SdS X 10 [(0, 14)] [14] _)
    refine su_ldcS hC (tx0 := "gate") (i := 1) rfl (by decide) (by decide) dX4_isName_10 (?_ : SdS X 12 [(0, 14)] [5, 14] _)
    refine su_inv0 (τ := []) (τr := [5]) (ci := 4) (q := (RX4, TX4, 15)) hC WG (M_X4_isWord _) rfl rfl rfl rfl  rfl rfl wl_2_201 wl_2_203 wp_4 wl_1_4 wl_2_204 hd_X4_isWord (by rw [e3]; decide) (by decide) dX4_isName_12 (?_ : SdS X 15 [(0, 14)] [0] _)
    refine su_if_ne (tgt := 81) hC dX4_isName_15 rfl (?_ : SdS X 81 [(0, 14)] [] _) (?_ : SdS X 18 [(0, 14)] [] _)
    · exact SdS.weak (by decide) (S_81)
    · refine su_aload_n hC 14 dX4_isName_18 rfl (by decide) (by decide) (?_ : SdS X 19 [(0, 14)] [14] _)
      refine su_ldcS hC (tx0 := "cart") (i := 2) rfl (by decide) (by decide) dX4_isName_19 (?_ : SdS X 21 [(0, 14)] [5, 14] _)
      refine su_inv0 (τ := []) (τr := [5]) (ci := 4) (q := (RX4, TX4, 15)) hC WG (M_X4_isWord _) rfl rfl rfl rfl  rfl rfl wl_2_201 wl_2_203 wp_4 wl_1_4 wl_2_204 hd_X4_isWord (by rw [e3]; decide) (by decide) dX4_isName_21 (?_ : SdS X 24 [(0, 14)] [0] _)
      refine su_if_ne (tgt := 81) hC dX4_isName_24 rfl (?_ : SdS X 81 [(0, 14)] [] _) (?_ : SdS X 27 [(0, 14)] [] _)
      · exact SdS.weak (by decide) (S_81)
      · refine su_aload_n hC 14 dX4_isName_27 rfl (by decide) (by decide) (?_ : SdS X 28 [(0, 14)] [14] _)
        refine su_ldcS hC (tx0 := "store") (i := 3) rfl (by decide) (by decide) dX4_isName_28 (?_ : SdS X 30 [(0, 14)] [5, 14] _)
        refine su_inv0 (τ := []) (τr := [5]) (ci := 4) (q := (RX4, TX4, 15)) hC WG (M_X4_isWord _) rfl rfl rfl rfl  rfl rfl wl_2_201 wl_2_203 wp_4 wl_1_4 wl_2_204 hd_X4_isWord (by rw [e3]; decide) (by decide) dX4_isName_30 (?_ : SdS X 33 [(0, 14)] [0] _)
        refine su_if_ne (tgt := 81) hC dX4_isName_33 rfl (?_ : SdS X 81 [(0, 14)] [] _) (?_ : SdS X 36 [(0, 14)] [] _)
        · exact SdS.weak (by decide) (S_81)
        · refine su_aload_n hC 14 dX4_isName_36 rfl (by decide) (by decide) (?_ : SdS X 37 [(0, 14)] [14] _)
          refine su_ldcS hC (tx0 := "good") (i := 4) rfl (by decide) (by decide) dX4_isName_37 (?_ : SdS X 39 [(0, 14)] [5, 14] _)
          refine su_inv0 (τ := []) (τr := [5]) (ci := 4) (q := (RX4, TX4, 15)) hC WG (M_X4_isWord _) rfl rfl rfl rfl  rfl rfl wl_2_201 wl_2_203 wp_4 wl_1_4 wl_2_204 hd_X4_isWord (by rw [e3]; decide) (by decide) dX4_isName_39 (?_ : SdS X 42 [(0, 14)] [0] _)
          refine su_if_ne (tgt := 81) hC dX4_isName_42 rfl (?_ : SdS X 81 [(0, 14)] [] _) (?_ : SdS X 45 [(0, 14)] [] _)
          · exact SdS.weak (by decide) (S_81)
          · refine su_aload_n hC 14 dX4_isName_45 rfl (by decide) (by decide) (?_ : SdS X 46 [(0, 14)] [14] _)
            refine su_ldcS hC (tx0 := "order") (i := 5) rfl (by decide) (by decide) dX4_isName_46 (?_ : SdS X 48 [(0, 14)] [5, 14] _)
            refine su_inv0 (τ := []) (τr := [5]) (ci := 4) (q := (RX4, TX4, 15)) hC WG (M_X4_isWord _) rfl rfl rfl rfl  rfl rfl wl_2_201 wl_2_203 wp_4 wl_1_4 wl_2_204 hd_X4_isWord (by rw [e3]; decide) (by decide) dX4_isName_48 (?_ : SdS X 51 [(0, 14)] [0] _)
            refine su_if_ne (tgt := 81) hC dX4_isName_51 rfl (?_ : SdS X 81 [(0, 14)] [] _) (?_ : SdS X 54 [(0, 14)] [] _)
            · exact SdS.weak (by decide) (S_81)
            · refine su_aload_n hC 14 dX4_isName_54 rfl (by decide) (by decide) (?_ : SdS X 55 [(0, 14)] [14] _)
              refine su_ldcS hC (tx0 := "parts") (i := 6) rfl (by decide) (by decide) dX4_isName_55 (?_ : SdS X 57 [(0, 14)] [5, 14] _)
              refine su_inv0 (τ := []) (τr := [5]) (ci := 4) (q := (RX4, TX4, 15)) hC WG (M_X4_isWord _) rfl rfl rfl rfl  rfl rfl wl_2_201 wl_2_203 wp_4 wl_1_4 wl_2_204 hd_X4_isWord (by rw [e3]; decide) (by decide) dX4_isName_57 (?_ : SdS X 60 [(0, 14)] [0] _)
              refine su_if_ne (tgt := 81) hC dX4_isName_60 rfl (?_ : SdS X 81 [(0, 14)] [] _) (?_ : SdS X 63 [(0, 14)] [] _)
              · exact SdS.weak (by decide) (S_81)
              · refine su_aload_n hC 14 dX4_isName_63 rfl (by decide) (by decide) (?_ : SdS X 64 [(0, 14)] [14] _)
                refine su_ldcS hC (tx0 := "tilts") (i := 7) rfl (by decide) (by decide) dX4_isName_64 (?_ : SdS X 66 [(0, 14)] [5, 14] _)
                refine su_inv0 (τ := []) (τr := [5]) (ci := 4) (q := (RX4, TX4, 15)) hC WG (M_X4_isWord _) rfl rfl rfl rfl  rfl rfl wl_2_201 wl_2_203 wp_4 wl_1_4 wl_2_204 hd_X4_isWord (by rw [e3]; decide) (by decide) dX4_isName_66 (?_ : SdS X 69 [(0, 14)] [0] _)
                refine su_if_ne (tgt := 81) hC dX4_isName_69 rfl (?_ : SdS X 81 [(0, 14)] [] _) (?_ : SdS X 72 [(0, 14)] [] _)
                · exact SdS.weak (by decide) (S_81)
                · refine su_aload_n hC 14 dX4_isName_72 rfl (by decide) (by decide) (?_ : SdS X 73 [(0, 14)] [14] _)
                  refine su_ldcS hC (tx0 := "holy") (i := 8) rfl (by decide) (by decide) dX4_isName_73 (?_ : SdS X 75 [(0, 14)] [5, 14] _)
                  refine su_inv0 (τ := []) (τr := [5]) (ci := 4) (q := (RX4, TX4, 15)) hC WG (M_X4_isWord _) rfl rfl rfl rfl  rfl rfl wl_2_201 wl_2_203 wp_4 wl_1_4 wl_2_204 hd_X4_isWord (by rw [e3]; decide) (by decide) dX4_isName_75 (?_ : SdS X 78 [(0, 14)] [0] _)
                  refine su_if_eq (tgt := 85) hC dX4_isName_78 rfl (?_ : SdS X 85 [(0, 14)] [] _) (?_ : SdS X 81 [(0, 14)] [] _)
                  · refine su_iconst hC dX4_isName_85 ⟨by decide, by decide⟩ (?_ : SdS X 86 [(0, 14)] [0] _)
                    exact SdS.weak (by decide) (S_86)
                  · exact SdS.weak (by decide) (S_81)
theorem wl_1_166 : Cond.fieldLink RX4 41 "NarrowRings$Reader" "names" "I" ∈ WALL := tb1 (List.mem_of_getElem? (i := 166) rfl) rfl
theorem wl_1_164 : Cond.fieldLink RX4 21 "NarrowRings$Reader" "name" "[J" ∈ WALL := tb1 (List.mem_of_getElem? (i := 164) rfl) rfl
theorem hd_X4_nameNumber : yX4_nameNumber.cls ≠ "java/lang/invoke/MethodHandle" ∧ yX4_nameNumber.cls ≠ "java/lang/invoke/VarHandle" ∧ (parseMethodDescriptor yX4_nameNumber.desc).map (fun d => d.parameters.length) = some 0 := by decide +kernel
set_option maxRecDepth 100000 in
set_option maxHeartbeats 4000000 in
theorem M_X4_nameNumber (l : Launch) : MtS l yX4_nameNumber (Cond.code yX4_nameNumber cX4_nameNumber 2 (some .int) :: WALL) { frames := 0, cells := 0, slots := 0, locals := 0 } [14] (some 0) T_X4_nameNumber := by
  refine MtS.mk (B := E_X4_nameNumber) (by decide +kernel) (by decide) (fun _ _ _ hh => hh) ?_
  intro X Q e1 e2 e3 hC hN hT
  subst e1
  have hC : CF X cX4_nameNumber RX4 WALL := hC
  have S_38 : SdS X 38 [(0, 14), (1, 0)] [] (B_X4_nameNumber_38 Q) := by
    unfold B_X4_nameNumber_38
    refine su_iconst hC dX4_nameNumber_38 ⟨by decide, by decide⟩ (?_ : SdS X 39 [(0, 14), (1, 0)] [0] _)
    exact su_ireturn hC hT dX4_nameNumber_39
  have S_2 : SdS X 2 [(0, 14), (1, 0)] [] (L_X4_nameNumber_2 Q) := by
    unfold L_X4_nameNumber_2
    refine SdS.loop (fun k2 h2 => ?_)
    refine su_iload_n hC dX4_nameNumber_2 rfl (by decide) (?_ : SdS X 3 [(0, 14), (1, 0)] [0] _)
    refine su_aload_n hC 14 dX4_nameNumber_3 rfl (by decide) (by decide) (?_ : SdS X 4 [(0, 14), (1, 0)] [14, 0] _)
    refine su_getF hC (ci := 4) (j := 13) (C := RX4) (T := TX4) (N := 15) rfl rfl (by decide) in_X4 wl_1_166 rfl dX4_nameNumber_4 (?_ : SdS X 7 [(0, 14), (1, 0)] [0, 0] _)
    refine su_icmp_ge (tgt := 38) hC dX4_nameNumber_7 rfl (?_ : SdS X 38 [(0, 14), (1, 0)] [] _) (?_ : SdS X 10 [(0, 14), (1, 0)] [] _)
    · exact SdS.weak (by decide) (S_38)
    · refine su_iload_n hC dX4_nameNumber_10 rfl (by decide) (?_ : SdS X 11 [(0, 14), (1, 0)] [0] _)
      refine su_bipush hC dX4_nameNumber_11 (by decide) (?_ : SdS X 13 [(0, 14), (1, 0)] [0, 0] _)
      refine su_icmp_ge (tgt := 38) hC dX4_nameNumber_13 rfl (?_ : SdS X 38 [(0, 14), (1, 0)] [] _) (?_ : SdS X 16 [(0, 14), (1, 0)] [] _)
      · exact SdS.weak (by decide) (S_38)
      · refine su_aload_n hC 14 dX4_nameNumber_16 rfl (by decide) (by decide) (?_ : SdS X 17 [(0, 14), (1, 0)] [14] _)
        refine su_getR hC (ci := 4) (j := 11) (C := RX4) (T := TX4) (N := 15) rfl rfl (by decide) in_X4 wl_1_164 rfl dX4_nameNumber_17 (?_ : SdS X 20 [(0, 14), (1, 0)] [101] _)
        refine su_iload_n hC dX4_nameNumber_20 rfl (by decide) (?_ : SdS X 21 [(0, 14), (1, 0)] [0, 101] _)
        refine su_laload hC dX4_nameNumber_21 (?_ : SdS X 22 [(0, 14), (1, 0)] [1] _)
        refine su_aload_n hC 14 dX4_nameNumber_22 rfl (by decide) (by decide) (?_ : SdS X 23 [(0, 14), (1, 0)] [14, 1] _)
        refine su_getF hC (ci := 4) (j := 7) (C := RX4) (T := TX4) (N := 15) rfl rfl (by decide) in_X4 wl_1_160 rfl dX4_nameNumber_23 (?_ : SdS X 26 [(0, 14), (1, 0)] [1, 1] _)
        refine su_lcmp hC dX4_nameNumber_26 (?_ : SdS X 27 [(0, 14), (1, 0)] [0] _)
        refine su_if_ne (tgt := 32) hC dX4_nameNumber_27 rfl (?_ : SdS X 32 [(0, 14), (1, 0)] [] _) (?_ : SdS X 30 [(0, 14), (1, 0)] [] _)
        · refine su_iinc (Γ' := [(0, 14), (1, 0)]) hC dX4_nameNumber_32 (by decide) (by rw [e2]; decide) (by decide) (?_ : SdS X 35 [(0, 14), (1, 0)] [] _)
          refine su_goto (tgt := 2) hC dX4_nameNumber_35 rfl (?_ : SdS X 2 [(0, 14), (1, 0)] [] _)
          exact SdS.weak (by decide) h2
        · refine su_iload_n hC dX4_nameNumber_30 rfl (by decide) (?_ : SdS X 31 [(0, 14), (1, 0)] [0] _)
          exact su_ireturn hC hT dX4_nameNumber_31
  refine (?_ : SdS X 0 [(0, 14)] [] (E_X4_nameNumber Q))
  unfold E_X4_nameNumber
  refine su_iconst hC dX4_nameNumber_0 ⟨by decide, by decide⟩ (?_ : SdS X 1 [(0, 14)] [0] _)
  refine su_istore_n (Γ' := [(0, 14), (1, 0)]) hC dX4_nameNumber_1 rfl (by rw [e2]; decide) (by decide) (?_ : SdS X 2 [(0, 14), (1, 0)] [] _)
  exact SdS.weak (by decide) (S_2)
theorem wl_3_38 : Cond.methodLink RX4 127 yX4_isName ∈ WALL := tb3 (List.mem_of_getElem? (i := 38) rfl) rfl
theorem wl_3_40 : Cond.instanceMethod yX4_isName ∈ WALL := tb3 (List.mem_of_getElem? (i := 40) rfl) rfl
theorem wp_11 : Cond.selects RX4 yX4_isName yX4_isName ∈ WALL := tbS (List.mem_of_getElem? (i := 11) rfl)
theorem wl_3_41 : Cond.code yX4_isName cX4_isName 2 (some .boolean) ∈ WALL := tb3 (List.mem_of_getElem? (i := 41) rfl) rfl
theorem wl_3_49 : Cond.methodLink RX4 130 yX4_nameNumber ∈ WALL := tb3 (List.mem_of_getElem? (i := 49) rfl) rfl
theorem wl_3_51 : Cond.instanceMethod yX4_nameNumber ∈ WALL := tb3 (List.mem_of_getElem? (i := 51) rfl) rfl
theorem wp_12 : Cond.selects RX4 yX4_nameNumber yX4_nameNumber ∈ WALL := tbS (List.mem_of_getElem? (i := 12) rfl)
theorem wl_3_52 : Cond.code yX4_nameNumber cX4_nameNumber 2 (some .int) ∈ WALL := tb3 (List.mem_of_getElem? (i := 52) rfl) rfl
theorem wl_1_165 : Cond.fieldLink RX4 25 "NarrowRings$Reader" "goodOf" "[I" ∈ WALL := tb1 (List.mem_of_getElem? (i := 165) rfl) rfl
theorem wl_2_190 : Cond.methodLink RX4 50 yX4_step ∈ WALL := tb2 (List.mem_of_getElem? (i := 190) rfl) rfl
theorem wl_2_192 : Cond.instanceMethod yX4_step ∈ WALL := tb2 (List.mem_of_getElem? (i := 192) rfl) rfl
theorem wp_2 : Cond.selects RX4 yX4_step yX4_step ∈ WALL := tbS (List.mem_of_getElem? (i := 2) rfl)
theorem wl_2_193 : Cond.code yX4_step cX4_step 1 none ∈ WALL := tb2 (List.mem_of_getElem? (i := 193) rfl) rfl
theorem hd_X4_needNewName : yX4_needNewName.cls ≠ "java/lang/invoke/MethodHandle" ∧ yX4_needNewName.cls ≠ "java/lang/invoke/VarHandle" ∧ (parseMethodDescriptor yX4_needNewName.desc).map (fun d => d.parameters.length) = some 1 := by decide +kernel
set_option maxRecDepth 100000 in
set_option maxHeartbeats 4000000 in
theorem M_X4_needNewName (l : Launch) : MtS l yX4_needNewName (Cond.code yX4_needNewName cX4_needNewName 2 (some .boolean) :: WALL) { frames := 6, cells := 0, slots := 0, locals := 128 } [14, 0] (some 0) T_X4_needNewName := by
  refine MtS.mk (B := E_X4_needNewName) (by decide +kernel) (by decide) (fun _ _ _ hh => hh) ?_
  intro X Q e1 e2 e3 hC hN hT
  subst e1
  have hC : CF X cX4_needNewName RX4 WALL := hC
  have S_34 : SdS X 34 [(0, 14), (1, 0)] [] (B_X4_needNewName_34 Q) := by
    unfold B_X4_needNewName_34
    refine su_aload_n hC 14 dX4_needNewName_34 rfl (by decide) (by decide) (?_ : SdS X 35 [(0, 14), (1, 0)] [14] _)
    refine su_iconst hC dX4_needNewName_35 ⟨by decide, by decide⟩ (?_ : SdS X 36 [(0, 14), (1, 0)] [0, 14] _)
    refine su_aload_n hC 14 dX4_needNewName_36 rfl (by decide) (by decide) (?_ : SdS X 37 [(0, 14), (1, 0)] [14, 0, 14] _)
    refine su_getF hC (ci := 4) (j := 3) (C := RX4) (T := TX4) (N := 15) rfl rfl (by decide) in_X4 wl_1_156 rfl dX4_needNewName_37 (?_ : SdS X 40 [(0, 14), (1, 0)] [0, 0, 14] _)
    refine su_inv0 (τ := []) (τr := [0, 0]) (ci := 4) (q := (RX4, TX4, 15)) hC WG (M_X4_flaw _) rfl rfl rfl rfl  rfl rfl wl_3_17 wl_3_19 wp_6 wl_1_4 wl_3_20 hd_X4_flaw (by rw [e3]; decide) (by decide) dX4_needNewName_40 (?_ : SdS X 43 [(0, 14), (1, 0)] [0] _)
    exact su_zreturn hC hT dX4_needNewName_43
  refine (?_ : SdS X 0 [(0, 14), (1, 0)] [] (E_X4_needNewName Q))
  unfold E_X4_needNewName
  refine su_aload_n hC 14 dX4_needNewName_0 rfl (by decide) (by decide) (?_ : SdS X 1 [(0, 14), (1, 0)] [14] _)
  refine su_inv0 (τ := []) (τr := []) (ci := 4) (q := (RX4, TX4, 15)) hC WG (M_X4_isName _) rfl rfl rfl rfl  rfl rfl wl_3_38 wl_3_40 wp_11 wl_1_4 wl_3_41 hd_X4_isName (by rw [e3]; decide) (by decide) dX4_needNewName_1 (?_ : SdS X 4 [(0, 14), (1, 0)] [0] _)
  refine su_if_ne (tgt := 17) hC dX4_needNewName_4 rfl (?_ : SdS X 17 [(0, 14), (1, 0)] [] _) (?_ : SdS X 7 [(0, 14), (1, 0)] [] _)
  · refine su_aload_n hC 14 dX4_needNewName_17 rfl (by decide) (by decide) (?_ : SdS X 18 [(0, 14), (1, 0)] [14] _)
    refine su_inv0 (τ := []) (τr := []) (ci := 4) (q := (RX4, TX4, 15)) hC WG (M_X4_nameNumber _) rfl rfl rfl rfl  rfl rfl wl_3_49 wl_3_51 wp_12 wl_1_4 wl_3_52 hd_X4_nameNumber (by rw [e3]; decide) (by decide) dX4_needNewName_18 (?_ : SdS X 21 [(0, 14), (1, 0)] [0] _)
    refine su_iconst hC dX4_needNewName_21 ⟨by decide, by decide⟩ (?_ : SdS X 22 [(0, 14), (1, 0)] [0, 0] _)
    refine su_icmp_ne (tgt := 34) hC dX4_needNewName_22 rfl (?_ : SdS X 34 [(0, 14), (1, 0)] [] _) (?_ : SdS X 25 [(0, 14), (1, 0)] [] _)
    · exact SdS.weak (by decide) (S_34)
    · refine su_aload_n hC 14 dX4_needNewName_25 rfl (by decide) (by decide) (?_ : SdS X 26 [(0, 14), (1, 0)] [14] _)
      refine su_getF hC (ci := 4) (j := 13) (C := RX4) (T := TX4) (N := 15) rfl rfl (by decide) in_X4 wl_1_166 rfl dX4_needNewName_26 (?_ : SdS X 29 [(0, 14), (1, 0)] [0] _)
      refine su_bipush hC dX4_needNewName_29 (by decide) (?_ : SdS X 31 [(0, 14), (1, 0)] [0, 0] _)
      refine su_icmp_lt (tgt := 44) hC dX4_needNewName_31 rfl (?_ : SdS X 44 [(0, 14), (1, 0)] [] _) (?_ : SdS X 34 [(0, 14), (1, 0)] [] _)
      · refine su_aload_n hC 14 dX4_needNewName_44 rfl (by decide) (by decide) (?_ : SdS X 45 [(0, 14), (1, 0)] [14] _)
        refine su_getR hC (ci := 4) (j := 11) (C := RX4) (T := TX4) (N := 15) rfl rfl (by decide) in_X4 wl_1_164 rfl dX4_needNewName_45 (?_ : SdS X 48 [(0, 14), (1, 0)] [101] _)
        refine su_aload_n hC 14 dX4_needNewName_48 rfl (by decide) (by decide) (?_ : SdS X 49 [(0, 14), (1, 0)] [14, 101] _)
        refine su_getF hC (ci := 4) (j := 13) (C := RX4) (T := TX4) (N := 15) rfl rfl (by decide) in_X4 wl_1_166 rfl dX4_needNewName_49 (?_ : SdS X 52 [(0, 14), (1, 0)] [0, 101] _)
        refine su_aload_n hC 14 dX4_needNewName_52 rfl (by decide) (by decide) (?_ : SdS X 53 [(0, 14), (1, 0)] [14, 0, 101] _)
        refine su_getF hC (ci := 4) (j := 7) (C := RX4) (T := TX4) (N := 15) rfl rfl (by decide) in_X4 wl_1_160 rfl dX4_needNewName_53 (?_ : SdS X 56 [(0, 14), (1, 0)] [1, 0, 101] _)
        refine su_lastore hC dX4_needNewName_56 (?_ : SdS X 57 [(0, 14), (1, 0)] [] _)
        refine su_aload_n hC 14 dX4_needNewName_57 rfl (by decide) (by decide) (?_ : SdS X 58 [(0, 14), (1, 0)] [14] _)
        refine su_getR hC (ci := 4) (j := 12) (C := RX4) (T := TX4) (N := 15) rfl rfl (by decide) in_X4 wl_1_165 rfl dX4_needNewName_58 (?_ : SdS X 61 [(0, 14), (1, 0)] [100] _)
        refine su_aload_n hC 14 dX4_needNewName_61 rfl (by decide) (by decide) (?_ : SdS X 62 [(0, 14), (1, 0)] [14, 100] _)
        refine su_getF hC (ci := 4) (j := 13) (C := RX4) (T := TX4) (N := 15) rfl rfl (by decide) in_X4 wl_1_166 rfl dX4_needNewName_62 (?_ : SdS X 65 [(0, 14), (1, 0)] [0, 100] _)
        refine su_iload_n hC dX4_needNewName_65 rfl (by decide) (?_ : SdS X 66 [(0, 14), (1, 0)] [0, 0, 100] _)
        refine su_iastore hC dX4_needNewName_66 (?_ : SdS X 67 [(0, 14), (1, 0)] [] _)
        refine su_aload_n hC 14 dX4_needNewName_67 rfl (by decide) (by decide) (?_ : SdS X 68 [(0, 14), (1, 0)] [14] _)
        refine su_dup hC (by decide) dX4_needNewName_68 (?_ : SdS X 69 [(0, 14), (1, 0)] [14, 14] _)
        refine su_getF hC (ci := 4) (j := 13) (C := RX4) (T := TX4) (N := 15) rfl rfl (by decide) in_X4 wl_1_166 rfl dX4_needNewName_69 (?_ : SdS X 72 [(0, 14), (1, 0)] [0, 14] _)
        refine su_iconst hC dX4_needNewName_72 ⟨by decide, by decide⟩ (?_ : SdS X 73 [(0, 14), (1, 0)] [0, 0, 14] _)
        refine su_iadd hC dX4_needNewName_73 (?_ : SdS X 74 [(0, 14), (1, 0)] [0, 14] _)
        refine su_putF hC (ci := 4) (j := 13) (C := RX4) (T := TX4) (N := 15) tyX4 tyX4_ok nmX4 rfl rfl (by decide) in_X4 rfl rfl wl_1_166 rfl dX4_needNewName_74 (?_ : SdS X 77 [(0, 14), (1, 0)] [] _)
        refine su_aload_n hC 14 dX4_needNewName_77 rfl (by decide) (by decide) (?_ : SdS X 78 [(0, 14), (1, 0)] [14] _)
        refine su_inv0v (τ := []) (τr := []) (ci := 4) (q := (RX4, TX4, 15)) hC WG (M_X4_step _) rfl rfl rfl rfl  rfl rfl wl_2_190 wl_2_192 wp_2 wl_1_4 wl_2_193 hd_X4_step (by rw [e3]; decide) (by decide) dX4_needNewName_78 (?_ : SdS X 81 [(0, 14), (1, 0)] [] _)
        refine su_iconst hC dX4_needNewName_81 ⟨by decide, by decide⟩ (?_ : SdS X 82 [(0, 14), (1, 0)] [0] _)
        exact su_zreturn hC hT dX4_needNewName_82
      · exact SdS.weak (by decide) (S_34)
  · refine su_aload_n hC 14 dX4_needNewName_7 rfl (by decide) (by decide) (?_ : SdS X 8 [(0, 14), (1, 0)] [14] _)
    refine su_iconst hC dX4_needNewName_8 ⟨by decide, by decide⟩ (?_ : SdS X 9 [(0, 14), (1, 0)] [0, 14] _)
    refine su_aload_n hC 14 dX4_needNewName_9 rfl (by decide) (by decide) (?_ : SdS X 10 [(0, 14), (1, 0)] [14, 0, 14] _)
    refine su_getF hC (ci := 4) (j := 3) (C := RX4) (T := TX4) (N := 15) rfl rfl (by decide) in_X4 wl_1_156 rfl dX4_needNewName_10 (?_ : SdS X 13 [(0, 14), (1, 0)] [0, 0, 14] _)
    refine su_inv0 (τ := []) (τr := [0, 0]) (ci := 4) (q := (RX4, TX4, 15)) hC WG (M_X4_flaw _) rfl rfl rfl rfl  rfl rfl wl_3_17 wl_3_19 wp_6 wl_1_4 wl_3_20 hd_X4_flaw (by rw [e3]; decide) (by decide) dX4_needNewName_13 (?_ : SdS X 16 [(0, 14), (1, 0)] [0] _)
    exact su_zreturn hC hT dX4_needNewName_16
theorem hd_X4_needWord : yX4_needWord.cls ≠ "java/lang/invoke/MethodHandle" ∧ yX4_needWord.cls ≠ "java/lang/invoke/VarHandle" ∧ (parseMethodDescriptor yX4_needWord.desc).map (fun d => d.parameters.length) = some 1 := by decide +kernel
set_option maxRecDepth 100000 in
set_option maxHeartbeats 4000000 in
theorem M_X4_needWord (l : Launch) : MtS l yX4_needWord (Cond.code yX4_needWord cX4_needWord 2 (some .boolean) :: WALL) { frames := 5, cells := 0, slots := 0, locals := 107 } [14, 5] (some 0) T_X4_needWord := by
  refine MtS.mk (B := E_X4_needWord) (by decide +kernel) (by decide) (fun _ _ _ hh => hh) ?_
  intro X Q e1 e2 e3 hC hN hT
  subst e1
  have hC : CF X cX4_needWord RX4 WALL := hC
  refine (?_ : SdS X 0 [(0, 14), (1, 5)] [] (E_X4_needWord Q))
  unfold E_X4_needWord
  refine su_aload_n hC 14 dX4_needWord_0 rfl (by decide) (by decide) (?_ : SdS X 1 [(0, 14), (1, 5)] [14] _)
  refine su_aload_n hC 5 dX4_needWord_1 rfl (by decide) (by decide) (?_ : SdS X 2 [(0, 14), (1, 5)] [5, 14] _)
  refine su_inv0 (τ := []) (τr := [5]) (ci := 4) (q := (RX4, TX4, 15)) hC WG (M_X4_isWord _) rfl rfl rfl rfl  rfl rfl wl_2_201 wl_2_203 wp_4 wl_1_4 wl_2_204 hd_X4_isWord (by rw [e3]; decide) (by decide) dX4_needWord_2 (?_ : SdS X 5 [(0, 14), (1, 5)] [0] _)
  refine su_if_ne (tgt := 18) hC dX4_needWord_5 rfl (?_ : SdS X 18 [(0, 14), (1, 5)] [] _) (?_ : SdS X 8 [(0, 14), (1, 5)] [] _)
  · refine su_aload_n hC 14 dX4_needWord_18 rfl (by decide) (by decide) (?_ : SdS X 19 [(0, 14), (1, 5)] [14] _)
    refine su_inv0v (τ := []) (τr := []) (ci := 4) (q := (RX4, TX4, 15)) hC WG (M_X4_step _) rfl rfl rfl rfl  rfl rfl wl_2_190 wl_2_192 wp_2 wl_1_4 wl_2_193 hd_X4_step (by rw [e3]; decide) (by decide) dX4_needWord_19 (?_ : SdS X 22 [(0, 14), (1, 5)] [] _)
    refine su_iconst hC dX4_needWord_22 ⟨by decide, by decide⟩ (?_ : SdS X 23 [(0, 14), (1, 5)] [0] _)
    exact su_zreturn hC hT dX4_needWord_23
  · refine su_aload_n hC 14 dX4_needWord_8 rfl (by decide) (by decide) (?_ : SdS X 9 [(0, 14), (1, 5)] [14] _)
    refine su_iconst hC dX4_needWord_9 ⟨by decide, by decide⟩ (?_ : SdS X 10 [(0, 14), (1, 5)] [0, 14] _)
    refine su_aload_n hC 14 dX4_needWord_10 rfl (by decide) (by decide) (?_ : SdS X 11 [(0, 14), (1, 5)] [14, 0, 14] _)
    refine su_getF hC (ci := 4) (j := 3) (C := RX4) (T := TX4) (N := 15) rfl rfl (by decide) in_X4 wl_1_156 rfl dX4_needWord_11 (?_ : SdS X 14 [(0, 14), (1, 5)] [0, 0, 14] _)
    refine su_inv0 (τ := []) (τr := [0, 0]) (ci := 4) (q := (RX4, TX4, 15)) hC WG (M_X4_flaw _) rfl rfl rfl rfl  rfl rfl wl_3_17 wl_3_19 wp_6 wl_1_4 wl_3_20 hd_X4_flaw (by rw [e3]; decide) (by decide) dX4_needWord_14 (?_ : SdS X 17 [(0, 14), (1, 5)] [0] _)
    exact su_zreturn hC hT dX4_needWord_17
theorem wl_1_161 : Cond.fieldLink RX4 111 "NarrowRings$Reader" "taken" "I" ∈ WALL := tb1 (List.mem_of_getElem? (i := 161) rfl) rfl
theorem hd_X4_needWhole : yX4_needWhole.cls ≠ "java/lang/invoke/MethodHandle" ∧ yX4_needWhole.cls ≠ "java/lang/invoke/VarHandle" ∧ (parseMethodDescriptor yX4_needWhole.desc).map (fun d => d.parameters.length) = some 2 := by decide +kernel
set_option maxRecDepth 100000 in
set_option maxHeartbeats 4000000 in
theorem M_X4_needWhole (l : Launch) : MtS l yX4_needWhole (Cond.code yX4_needWhole cX4_needWhole 3 (some .boolean) :: WALL) { frames := 1, cells := 0, slots := 0, locals := 22 } [14, 0, 0] (some 0) T_X4_needWhole := by
  refine MtS.mk (B := E_X4_needWhole) (by decide +kernel) (by decide) (fun _ _ _ hh => hh) ?_
  intro X Q e1 e2 e3 hC hN hT
  subst e1
  have hC : CF X cX4_needWhole RX4 WALL := hC
  have S_34 : SdS X 34 [(0, 14), (1, 0), (2, 0)] [] (B_X4_needWhole_34 Q) := by
    unfold B_X4_needWhole_34
    refine su_aload_n hC 14 dX4_needWhole_34 rfl (by decide) (by decide) (?_ : SdS X 35 [(0, 14), (1, 0), (2, 0)] [14] _)
    refine su_iconst hC dX4_needWhole_35 ⟨by decide, by decide⟩ (?_ : SdS X 36 [(0, 14), (1, 0), (2, 0)] [0, 14] _)
    refine su_aload_n hC 14 dX4_needWhole_36 rfl (by decide) (by decide) (?_ : SdS X 37 [(0, 14), (1, 0), (2, 0)] [14, 0, 14] _)
    refine su_getF hC (ci := 4) (j := 3) (C := RX4) (T := TX4) (N := 15) rfl rfl (by decide) in_X4 wl_1_156 rfl dX4_needWhole_37 (?_ : SdS X 40 [(0, 14), (1, 0), (2, 0)] [0, 0, 14] _)
    refine su_inv0 (τ := []) (τr := [0, 0]) (ci := 4) (q := (RX4, TX4, 15)) hC WG (M_X4_flaw _) rfl rfl rfl rfl  rfl rfl wl_3_17 wl_3_19 wp_6 wl_1_4 wl_3_20 hd_X4_flaw (by rw [e3]; decide) (by decide) dX4_needWhole_40 (?_ : SdS X 43 [(0, 14), (1, 0), (2, 0)] [0] _)
    exact su_zreturn hC hT dX4_needWhole_43
  refine (?_ : SdS X 0 [(0, 14), (1, 0), (2, 0)] [] (E_X4_needWhole Q))
  unfold E_X4_needWhole
  refine su_aload_n hC 14 dX4_needWhole_0 rfl (by decide) (by decide) (?_ : SdS X 1 [(0, 14), (1, 0), (2, 0)] [14] _)
  refine su_getF hC (ci := 4) (j := 5) (C := RX4) (T := TX4) (N := 15) rfl rfl (by decide) in_X4 wl_1_158 rfl dX4_needWhole_1 (?_ : SdS X 4 [(0, 14), (1, 0), (2, 0)] [0] _)
  refine su_iconst hC dX4_needWhole_4 ⟨by decide, by decide⟩ (?_ : SdS X 5 [(0, 14), (1, 0), (2, 0)] [0, 0] _)
  refine su_icmp_eq (tgt := 18) hC dX4_needWhole_5 rfl (?_ : SdS X 18 [(0, 14), (1, 0), (2, 0)] [] _) (?_ : SdS X 8 [(0, 14), (1, 0), (2, 0)] [] _)
  · refine su_aload_n hC 14 dX4_needWhole_18 rfl (by decide) (by decide) (?_ : SdS X 19 [(0, 14), (1, 0), (2, 0)] [14] _)
    refine su_getF hC (ci := 4) (j := 6) (C := RX4) (T := TX4) (N := 15) rfl rfl (by decide) in_X4 wl_1_159 rfl dX4_needWhole_19 (?_ : SdS X 22 [(0, 14), (1, 0), (2, 0)] [0] _)
    refine su_iload_n hC dX4_needWhole_22 rfl (by decide) (?_ : SdS X 23 [(0, 14), (1, 0), (2, 0)] [0, 0] _)
    refine su_icmp_lt (tgt := 34) hC dX4_needWhole_23 rfl (?_ : SdS X 34 [(0, 14), (1, 0), (2, 0)] [] _) (?_ : SdS X 26 [(0, 14), (1, 0), (2, 0)] [] _)
    · exact SdS.weak (by decide) (S_34)
    · refine su_aload_n hC 14 dX4_needWhole_26 rfl (by decide) (by decide) (?_ : SdS X 27 [(0, 14), (1, 0), (2, 0)] [14] _)
      refine su_getF hC (ci := 4) (j := 6) (C := RX4) (T := TX4) (N := 15) rfl rfl (by decide) in_X4 wl_1_159 rfl dX4_needWhole_27 (?_ : SdS X 30 [(0, 14), (1, 0), (2, 0)] [0] _)
      refine su_iload_n hC dX4_needWhole_30 rfl (by decide) (?_ : SdS X 31 [(0, 14), (1, 0), (2, 0)] [0, 0] _)
      refine su_icmp_le (tgt := 44) hC dX4_needWhole_31 rfl (?_ : SdS X 44 [(0, 14), (1, 0), (2, 0)] [] _) (?_ : SdS X 34 [(0, 14), (1, 0), (2, 0)] [] _)
      · refine su_aload_n hC 14 dX4_needWhole_44 rfl (by decide) (by decide) (?_ : SdS X 45 [(0, 14), (1, 0), (2, 0)] [14] _)
        refine su_aload_n hC 14 dX4_needWhole_45 rfl (by decide) (by decide) (?_ : SdS X 46 [(0, 14), (1, 0), (2, 0)] [14, 14] _)
        refine su_getF hC (ci := 4) (j := 6) (C := RX4) (T := TX4) (N := 15) rfl rfl (by decide) in_X4 wl_1_159 rfl dX4_needWhole_46 (?_ : SdS X 49 [(0, 14), (1, 0), (2, 0)] [0, 14] _)
        refine su_putF hC (ci := 4) (j := 8) (C := RX4) (T := TX4) (N := 15) tyX4 tyX4_ok nmX4 rfl rfl (by decide) in_X4 rfl rfl wl_1_161 rfl dX4_needWhole_49 (?_ : SdS X 52 [(0, 14), (1, 0), (2, 0)] [] _)
        refine su_aload_n hC 14 dX4_needWhole_52 rfl (by decide) (by decide) (?_ : SdS X 53 [(0, 14), (1, 0), (2, 0)] [14] _)
        refine su_inv0v (τ := []) (τr := []) (ci := 4) (q := (RX4, TX4, 15)) hC WG (M_X4_step _) rfl rfl rfl rfl  rfl rfl wl_2_190 wl_2_192 wp_2 wl_1_4 wl_2_193 hd_X4_step (by rw [e3]; decide) (by decide) dX4_needWhole_53 (?_ : SdS X 56 [(0, 14), (1, 0), (2, 0)] [] _)
        refine su_iconst hC dX4_needWhole_56 ⟨by decide, by decide⟩ (?_ : SdS X 57 [(0, 14), (1, 0), (2, 0)] [0] _)
        exact su_zreturn hC hT dX4_needWhole_57
      · exact SdS.weak (by decide) (S_34)
  · refine su_aload_n hC 14 dX4_needWhole_8 rfl (by decide) (by decide) (?_ : SdS X 9 [(0, 14), (1, 0), (2, 0)] [14] _)
    refine su_iconst hC dX4_needWhole_9 ⟨by decide, by decide⟩ (?_ : SdS X 10 [(0, 14), (1, 0), (2, 0)] [0, 14] _)
    refine su_aload_n hC 14 dX4_needWhole_10 rfl (by decide) (by decide) (?_ : SdS X 11 [(0, 14), (1, 0), (2, 0)] [14, 0, 14] _)
    refine su_getF hC (ci := 4) (j := 3) (C := RX4) (T := TX4) (N := 15) rfl rfl (by decide) in_X4 wl_1_156 rfl dX4_needWhole_11 (?_ : SdS X 14 [(0, 14), (1, 0), (2, 0)] [0, 0, 14] _)
    refine su_inv0 (τ := []) (τr := [0, 0]) (ci := 4) (q := (RX4, TX4, 15)) hC WG (M_X4_flaw _) rfl rfl rfl rfl  rfl rfl wl_3_17 wl_3_19 wp_6 wl_1_4 wl_3_20 hd_X4_flaw (by rw [e3]; decide) (by decide) dX4_needWhole_14 (?_ : SdS X 17 [(0, 14), (1, 0), (2, 0)] [0] _)
    exact su_zreturn hC hT dX4_needWhole_17
theorem hd_X4_put : yX4_put.cls ≠ "java/lang/invoke/MethodHandle" ∧ yX4_put.cls ≠ "java/lang/invoke/VarHandle" ∧ (parseMethodDescriptor yX4_put.desc).map (fun d => d.parameters.length) = some 2 := by decide +kernel
set_option maxRecDepth 100000 in
set_option maxHeartbeats 4000000 in
theorem M_X4_put (l : Launch) : MtS l yX4_put (Cond.code yX4_put cX4_put 3 none :: WALL) { frames := 0, cells := 0, slots := 0, locals := 0 } [14, 100, 0] none T_X4_put := by
  refine MtS.mk (B := E_X4_put) (by decide +kernel) (by decide) (fun _ _ _ hh => hh) ?_
  intro X Q e1 e2 e3 hC hN hT
  subst e1
  have hC : CF X cX4_put RX4 WALL := hC
  have S_17 : SdS X 17 [(0, 14), (1, 100), (2, 0)] [] (B_X4_put_17 Q) := by
    unfold B_X4_put_17
    exact su_return hC hT dX4_put_17
  refine (?_ : SdS X 0 [(0, 14), (1, 100), (2, 0)] [] (E_X4_put Q))
  unfold E_X4_put
  refine su_iload_n hC dX4_put_0 rfl (by decide) (?_ : SdS X 1 [(0, 14), (1, 100), (2, 0)] [0] _)
  refine su_if_lt (tgt := 17) hC dX4_put_1 rfl (?_ : SdS X 17 [(0, 14), (1, 100), (2, 0)] [] _) (?_ : SdS X 4 [(0, 14), (1, 100), (2, 0)] [] _)
  · exact SdS.weak (by decide) (S_17)
  · refine su_iload_n hC dX4_put_4 rfl (by decide) (?_ : SdS X 5 [(0, 14), (1, 100), (2, 0)] [0] _)
    refine su_aload_n hC 100 dX4_put_5 rfl (by decide) (by decide) (?_ : SdS X 6 [(0, 14), (1, 100), (2, 0)] [100, 0] _)
    refine su_alen (e := 0) hC (List.mem_of_getElem? (i := 0) rfl) dX4_put_6 (?_ : SdS X 7 [(0, 14), (1, 100), (2, 0)] [0, 0] _)
    refine su_icmp_ge (tgt := 17) hC dX4_put_7 rfl (?_ : SdS X 17 [(0, 14), (1, 100), (2, 0)] [] _) (?_ : SdS X 10 [(0, 14), (1, 100), (2, 0)] [] _)
    · exact SdS.weak (by decide) (S_17)
    · refine su_aload_n hC 100 dX4_put_10 rfl (by decide) (by decide) (?_ : SdS X 11 [(0, 14), (1, 100), (2, 0)] [100] _)
      refine su_iload_n hC dX4_put_11 rfl (by decide) (?_ : SdS X 12 [(0, 14), (1, 100), (2, 0)] [0, 100] _)
      refine su_aload_n hC 14 dX4_put_12 rfl (by decide) (by decide) (?_ : SdS X 13 [(0, 14), (1, 100), (2, 0)] [14, 0, 100] _)
      refine su_getF hC (ci := 4) (j := 8) (C := RX4) (T := TX4) (N := 15) rfl rfl (by decide) in_X4 wl_1_161 rfl dX4_put_13 (?_ : SdS X 16 [(0, 14), (1, 100), (2, 0)] [0, 0, 100] _)
      refine su_iastore hC dX4_put_16 (?_ : SdS X 17 [(0, 14), (1, 100), (2, 0)] [] _)
      exact SdS.weak (by decide) (S_17)
theorem wl_3_58 : Cond.methodLink RX4 114 yX4_needWord ∈ WALL := tb3 (List.mem_of_getElem? (i := 58) rfl) rfl
theorem wl_3_60 : Cond.instanceMethod yX4_needWord ∈ WALL := tb3 (List.mem_of_getElem? (i := 60) rfl) rfl
theorem wp_14 : Cond.selects RX4 yX4_needWord yX4_needWord ∈ WALL := tbS (List.mem_of_getElem? (i := 14) rfl)
theorem wl_3_61 : Cond.code yX4_needWord cX4_needWord 2 (some .boolean) ∈ WALL := tb3 (List.mem_of_getElem? (i := 61) rfl) rfl
theorem wl_3_21 : Cond.methodLink RX4 117 yX4_needWhole ∈ WALL := tb3 (List.mem_of_getElem? (i := 21) rfl) rfl
theorem wl_3_23 : Cond.instanceMethod yX4_needWhole ∈ WALL := tb3 (List.mem_of_getElem? (i := 23) rfl) rfl
theorem wp_7 : Cond.selects RX4 yX4_needWhole yX4_needWhole ∈ WALL := tbS (List.mem_of_getElem? (i := 7) rfl)
theorem wl_3_24 : Cond.code yX4_needWhole cX4_needWhole 3 (some .boolean) ∈ WALL := tb3 (List.mem_of_getElem? (i := 24) rfl) rfl
theorem wl_3_62 : Cond.methodLink RX4 120 yX4_put ∈ WALL := tb3 (List.mem_of_getElem? (i := 62) rfl) rfl
theorem wl_3_64 : Cond.instanceMethod yX4_put ∈ WALL := tb3 (List.mem_of_getElem? (i := 64) rfl) rfl
theorem wp_15 : Cond.selects RX4 yX4_put yX4_put ∈ WALL := tbS (List.mem_of_getElem? (i := 15) rfl)
theorem wl_3_65 : Cond.code yX4_put cX4_put 3 none ∈ WALL := tb3 (List.mem_of_getElem? (i := 65) rfl) rfl
theorem hd_X4_needSaid : yX4_needSaid.cls ≠ "java/lang/invoke/MethodHandle" ∧ yX4_needSaid.cls ≠ "java/lang/invoke/VarHandle" ∧ (parseMethodDescriptor yX4_needSaid.desc).map (fun d => d.parameters.length) = some 5 := by decide +kernel
set_option maxRecDepth 100000 in
set_option maxHeartbeats 4000000 in
theorem M_X4_needSaid (l : Launch) : MtS l yX4_needSaid (Cond.code yX4_needSaid cX4_needSaid 6 (some .boolean) :: WALL) { frames := 6, cells := 0, slots := 0, locals := 128 } [14, 5, 0, 0, 100, 0] (some 0) T_X4_needSaid := by
  refine MtS.mk (B := E_X4_needSaid) (by decide +kernel) (by decide) (fun _ _ _ hh => hh) ?_
  intro X Q e1 e2 e3 hC hN hT
  subst e1
  have hC : CF X cX4_needSaid RX4 WALL := hC
  have S_17 : SdS X 17 [(0, 14), (1, 5), (2, 0), (3, 0), (4, 100), (5, 0)] [] (B_X4_needSaid_17 Q) := by
    unfold B_X4_needSaid_17
    refine su_iconst hC dX4_needSaid_17 ⟨by decide, by decide⟩ (?_ : SdS X 18 [(0, 14), (1, 5), (2, 0), (3, 0), (4, 100), (5, 0)] [0] _)
    exact su_zreturn hC hT dX4_needSaid_18
  refine (?_ : SdS X 0 [(0, 14), (1, 5), (2, 0), (3, 0), (4, 100), (5, 0)] [] (E_X4_needSaid Q))
  unfold E_X4_needSaid
  refine su_aload_n hC 14 dX4_needSaid_0 rfl (by decide) (by decide) (?_ : SdS X 1 [(0, 14), (1, 5), (2, 0), (3, 0), (4, 100), (5, 0)] [14] _)
  refine su_aload_n hC 5 dX4_needSaid_1 rfl (by decide) (by decide) (?_ : SdS X 2 [(0, 14), (1, 5), (2, 0), (3, 0), (4, 100), (5, 0)] [5, 14] _)
  refine su_inv0 (τ := []) (τr := [5]) (ci := 4) (q := (RX4, TX4, 15)) hC WG (M_X4_needWord _) rfl rfl rfl rfl  rfl rfl wl_3_58 wl_3_60 wp_14 wl_1_4 wl_3_61 hd_X4_needWord (by rw [e3]; decide) (by decide) dX4_needSaid_2 (?_ : SdS X 5 [(0, 14), (1, 5), (2, 0), (3, 0), (4, 100), (5, 0)] [0] _)
  refine su_if_eq (tgt := 17) hC dX4_needSaid_5 rfl (?_ : SdS X 17 [(0, 14), (1, 5), (2, 0), (3, 0), (4, 100), (5, 0)] [] _) (?_ : SdS X 8 [(0, 14), (1, 5), (2, 0), (3, 0), (4, 100), (5, 0)] [] _)
  · exact SdS.weak (by decide) (S_17)
  · refine su_aload_n hC 14 dX4_needSaid_8 rfl (by decide) (by decide) (?_ : SdS X 9 [(0, 14), (1, 5), (2, 0), (3, 0), (4, 100), (5, 0)] [14] _)
    refine su_iload_n hC dX4_needSaid_9 rfl (by decide) (?_ : SdS X 10 [(0, 14), (1, 5), (2, 0), (3, 0), (4, 100), (5, 0)] [0, 14] _)
    refine su_iload_n hC dX4_needSaid_10 rfl (by decide) (?_ : SdS X 11 [(0, 14), (1, 5), (2, 0), (3, 0), (4, 100), (5, 0)] [0, 0, 14] _)
    refine su_inv0 (τ := []) (τr := [0, 0]) (ci := 4) (q := (RX4, TX4, 15)) hC WG (M_X4_needWhole _) rfl rfl rfl rfl  rfl rfl wl_3_21 wl_3_23 wp_7 wl_1_4 wl_3_24 hd_X4_needWhole (by rw [e3]; decide) (by decide) dX4_needSaid_11 (?_ : SdS X 14 [(0, 14), (1, 5), (2, 0), (3, 0), (4, 100), (5, 0)] [0] _)
    refine su_if_ne (tgt := 19) hC dX4_needSaid_14 rfl (?_ : SdS X 19 [(0, 14), (1, 5), (2, 0), (3, 0), (4, 100), (5, 0)] [] _) (?_ : SdS X 17 [(0, 14), (1, 5), (2, 0), (3, 0), (4, 100), (5, 0)] [] _)
    · refine su_aload_n hC 14 dX4_needSaid_19 rfl (by decide) (by decide) (?_ : SdS X 20 [(0, 14), (1, 5), (2, 0), (3, 0), (4, 100), (5, 0)] [14] _)
      refine su_aload hC 100 dX4_needSaid_20 (by decide) (by decide) (?_ : SdS X 22 [(0, 14), (1, 5), (2, 0), (3, 0), (4, 100), (5, 0)] [100, 14] _)
      refine su_iload hC dX4_needSaid_22 (by decide) (?_ : SdS X 24 [(0, 14), (1, 5), (2, 0), (3, 0), (4, 100), (5, 0)] [0, 100, 14] _)
      refine su_inv0v (τ := []) (τr := [100, 0]) (ci := 4) (q := (RX4, TX4, 15)) hC WG (M_X4_put _) rfl rfl rfl rfl  rfl rfl wl_3_62 wl_3_64 wp_15 wl_1_4 wl_3_65 hd_X4_put (by rw [e3]; decide) (by decide) dX4_needSaid_24 (?_ : SdS X 27 [(0, 14), (1, 5), (2, 0), (3, 0), (4, 100), (5, 0)] [] _)
      refine su_iconst hC dX4_needSaid_27 ⟨by decide, by decide⟩ (?_ : SdS X 28 [(0, 14), (1, 5), (2, 0), (3, 0), (4, 100), (5, 0)] [0] _)
      exact su_zreturn hC hT dX4_needSaid_28
    · exact SdS.weak (by decide) (S_17)
theorem wl_1_90 : Cond.fieldLink RX4 182 "NarrowRings$City" "carts" "I" ∈ WALL := tb1 (List.mem_of_getElem? (i := 90) rfl) rfl
theorem wl_3_30 : Cond.methodLink RX4 157 yX4_mayTellRings ∈ WALL := tb3 (List.mem_of_getElem? (i := 30) rfl) rfl
theorem wl_3_32 : Cond.instanceMethod yX4_mayTellRings ∈ WALL := tb3 (List.mem_of_getElem? (i := 32) rfl) rfl
theorem wp_9 : Cond.selects RX4 yX4_mayTellRings yX4_mayTellRings ∈ WALL := tbS (List.mem_of_getElem? (i := 9) rfl)
theorem wl_3_33 : Cond.code yX4_mayTellRings cX4_mayTellRings 3 (some .boolean) ∈ WALL := tb3 (List.mem_of_getElem? (i := 33) rfl) rfl
theorem wl_1_109 : Cond.fieldLink RX4 185 "NarrowRings$City" "cart" "[[I" ∈ WALL := tb1 (List.mem_of_getElem? (i := 109) rfl) rfl
theorem wl_3_34 : Cond.methodLink RX4 163 yX4_needNewName ∈ WALL := tb3 (List.mem_of_getElem? (i := 34) rfl) rfl
theorem wl_3_36 : Cond.instanceMethod yX4_needNewName ∈ WALL := tb3 (List.mem_of_getElem? (i := 36) rfl) rfl
theorem wp_10 : Cond.selects RX4 yX4_needNewName yX4_needNewName ∈ WALL := tbS (List.mem_of_getElem? (i := 10) rfl)
theorem wl_3_37 : Cond.code yX4_needNewName cX4_needNewName 2 (some .boolean) ∈ WALL := tb3 (List.mem_of_getElem? (i := 37) rfl) rfl
theorem wl_3_54 : Cond.methodLink RX4 169 yX4_needSaid ∈ WALL := tb3 (List.mem_of_getElem? (i := 54) rfl) rfl
theorem wl_3_56 : Cond.instanceMethod yX4_needSaid ∈ WALL := tb3 (List.mem_of_getElem? (i := 56) rfl) rfl
theorem wp_13 : Cond.selects RX4 yX4_needSaid yX4_needSaid ∈ WALL := tbS (List.mem_of_getElem? (i := 13) rfl)
theorem wl_3_57 : Cond.code yX4_needSaid cX4_needSaid 6 (some .boolean) ∈ WALL := tb3 (List.mem_of_getElem? (i := 57) rfl) rfl
theorem hd_X4_cartLine : yX4_cartLine.cls ≠ "java/lang/invoke/MethodHandle" ∧ yX4_cartLine.cls ≠ "java/lang/invoke/VarHandle" ∧ (parseMethodDescriptor yX4_cartLine.desc).map (fun d => d.parameters.length) = some 0 := by decide +kernel
set_option maxRecDepth 100000 in
set_option maxHeartbeats 4000000 in
theorem M_X4_cartLine (l : Launch) : MtS l yX4_cartLine (Cond.code yX4_cartLine cX4_cartLine 2 (some .boolean) :: WALL) { frames := 7, cells := 0, slots := 0, locals := 153 } [14] (some 0) T_X4_cartLine := by
  refine MtS.mk (B := E_X4_cartLine) (by decide +kernel) (by decide) (fun _ _ _ hh => hh) ?_
  intro X Q e1 e2 e3 hC hN hT
  subst e1
  have hC : CF X cX4_cartLine RX4 WALL := hC
  have S_99 : SdS X 99 [(0, 14), (1, 100)] [0] (B_X4_cartLine_99 Q) := by
    unfold B_X4_cartLine_99
    exact su_zreturn hC hT dX4_cartLine_99
  have S_98 : SdS X 98 [(0, 14), (1, 100)] [] (B_X4_cartLine_98 Q) := by
    unfold B_X4_cartLine_98
    refine su_iconst hC dX4_cartLine_98 ⟨by decide, by decide⟩ (?_ : SdS X 99 [(0, 14), (1, 100)] [0] _)
    exact SdS.weak (by decide) (S_99)
  refine (?_ : SdS X 0 [(0, 14)] [] (E_X4_cartLine Q))
  unfold E_X4_cartLine
  refine su_aload_n hC 14 dX4_cartLine_0 rfl (by decide) (by decide) (?_ : SdS X 1 [(0, 14)] [14] _)
  refine su_aload_n hC 14 dX4_cartLine_1 rfl (by decide) (by decide) (?_ : SdS X 2 [(0, 14)] [14, 14] _)
  refine su_getR hC (ci := 4) (j := 10) (C := RX4) (T := TX4) (N := 15) rfl rfl (by decide) in_X4 wl_1_163 rfl dX4_cartLine_2 (?_ : SdS X 5 [(0, 14)] [11, 14] _)
  refine su_getF hC (ci := 1) (j := 2) (C := RX1) (T := TX1) (N := 12) rfl rfl (by decide) in_X1 wl_1_90 rfl dX4_cartLine_5 (?_ : SdS X 8 [(0, 14)] [0, 14] _)
  refine su_bipush hC dX4_cartLine_8 (by decide) (?_ : SdS X 10 [(0, 14)] [0, 0, 14] _)
  refine su_inv0 (τ := []) (τr := [0, 0]) (ci := 4) (q := (RX4, TX4, 15)) hC WG (M_X4_mayTellRings _) rfl rfl rfl rfl  rfl rfl wl_3_30 wl_3_32 wp_9 wl_1_4 wl_3_33 hd_X4_mayTellRings (by rw [e3]; decide) (by decide) dX4_cartLine_10 (?_ : SdS X 13 [(0, 14)] [0] _)
  refine su_if_ne (tgt := 18) hC dX4_cartLine_13 rfl (?_ : SdS X 18 [(0, 14)] [] _) (?_ : SdS X 16 [(0, 14)] [] _)
  · refine su_aload_n hC 14 dX4_cartLine_18 rfl (by decide) (by decide) (?_ : SdS X 19 [(0, 14)] [14] _)
    refine su_getR hC (ci := 4) (j := 10) (C := RX4) (T := TX4) (N := 15) rfl rfl (by decide) in_X4 wl_1_163 rfl dX4_cartLine_19 (?_ : SdS X 22 [(0, 14)] [11] _)
    refine su_getR hC (ci := 1) (j := 7) (C := RX1) (T := TX1) (N := 12) rfl rfl (by decide) in_X1 wl_1_109 rfl dX4_cartLine_22 (?_ : SdS X 25 [(0, 14)] [200] _)
    refine su_aload_n hC 14 dX4_cartLine_25 rfl (by decide) (by decide) (?_ : SdS X 26 [(0, 14)] [14, 200] _)
    refine su_getR hC (ci := 4) (j := 10) (C := RX4) (T := TX4) (N := 15) rfl rfl (by decide) in_X4 wl_1_163 rfl dX4_cartLine_26 (?_ : SdS X 29 [(0, 14)] [11, 200] _)
    refine su_getF hC (ci := 1) (j := 2) (C := RX1) (T := TX1) (N := 12) rfl rfl (by decide) in_X1 wl_1_90 rfl dX4_cartLine_29 (?_ : SdS X 32 [(0, 14)] [0, 200] _)
    refine su_aaload (e := 100) hC (List.mem_of_getElem? (i := 7) rfl) rfl rfl rfl dX4_cartLine_32 (?_ : SdS X 33 [(0, 14)] [100] _)
    refine su_astore_n (Γ' := [(0, 14), (1, 100)]) hC dX4_cartLine_33 rfl (by decide) (by rw [e2]; decide) (by decide) (?_ : SdS X 34 [(0, 14), (1, 100)] [] _)
    refine su_aload_n hC 14 dX4_cartLine_34 rfl (by decide) (by decide) (?_ : SdS X 35 [(0, 14), (1, 100)] [14] _)
    refine su_getR hC (ci := 4) (j := 10) (C := RX4) (T := TX4) (N := 15) rfl rfl (by decide) in_X4 wl_1_163 rfl dX4_cartLine_35 (?_ : SdS X 38 [(0, 14), (1, 100)] [11] _)
    refine su_dup hC (by decide) dX4_cartLine_38 (?_ : SdS X 39 [(0, 14), (1, 100)] [11, 11] _)
    refine su_getF hC (ci := 1) (j := 2) (C := RX1) (T := TX1) (N := 12) rfl rfl (by decide) in_X1 wl_1_90 rfl dX4_cartLine_39 (?_ : SdS X 42 [(0, 14), (1, 100)] [0, 11] _)
    refine su_iconst hC dX4_cartLine_42 ⟨by decide, by decide⟩ (?_ : SdS X 43 [(0, 14), (1, 100)] [0, 0, 11] _)
    refine su_iadd hC dX4_cartLine_43 (?_ : SdS X 44 [(0, 14), (1, 100)] [0, 11] _)
    refine su_putF hC (ci := 1) (j := 2) (C := RX1) (T := TX1) (N := 12) tyX1 tyX1_ok nmX1 rfl rfl (by decide) in_X1 rfl rfl wl_1_90 rfl dX4_cartLine_44 (?_ : SdS X 47 [(0, 14), (1, 100)] [] _)
    refine su_aload_n hC 14 dX4_cartLine_47 rfl (by decide) (by decide) (?_ : SdS X 48 [(0, 14), (1, 100)] [14] _)
    refine su_inv0v (τ := []) (τr := []) (ci := 4) (q := (RX4, TX4, 15)) hC WG (M_X4_step _) rfl rfl rfl rfl  rfl rfl wl_2_190 wl_2_192 wp_2 wl_1_4 wl_2_193 hd_X4_step (by rw [e3]; decide) (by decide) dX4_cartLine_48 (?_ : SdS X 51 [(0, 14), (1, 100)] [] _)
    refine su_aload_n hC 14 dX4_cartLine_51 rfl (by decide) (by decide) (?_ : SdS X 52 [(0, 14), (1, 100)] [14] _)
    refine su_iconst hC dX4_cartLine_52 ⟨by decide, by decide⟩ (?_ : SdS X 53 [(0, 14), (1, 100)] [0, 14] _)
    refine su_inv0 (τ := []) (τr := [0]) (ci := 4) (q := (RX4, TX4, 15)) hC WG (M_X4_needNewName _) rfl rfl rfl rfl  rfl rfl wl_3_34 wl_3_36 wp_10 wl_1_4 wl_3_37 hd_X4_needNewName (by rw [e3]; decide) (by decide) dX4_cartLine_53 (?_ : SdS X 56 [(0, 14), (1, 100)] [0] _)
    refine su_if_eq (tgt := 98) hC dX4_cartLine_56 rfl (?_ : SdS X 98 [(0, 14), (1, 100)] [] _) (?_ : SdS X 59 [(0, 14), (1, 100)] [] _)
    · exact SdS.weak (by decide) (S_98)
    · refine su_aload_n hC 14 dX4_cartLine_59 rfl (by decide) (by decide) (?_ : SdS X 60 [(0, 14), (1, 100)] [14] _)
      refine su_ldcS hC (tx0 := "in") (i := 9) rfl (by decide) (by decide) dX4_cartLine_60 (?_ : SdS X 62 [(0, 14), (1, 100)] [5, 14] _)
      refine su_iconst hC dX4_cartLine_62 ⟨by decide, by decide⟩ (?_ : SdS X 63 [(0, 14), (1, 100)] [0, 5, 14] _)
      refine su_aload_n hC 14 dX4_cartLine_63 rfl (by decide) (by decide) (?_ : SdS X 64 [(0, 14), (1, 100)] [14, 0, 5, 14] _)
      refine su_getR hC (ci := 4) (j := 10) (C := RX4) (T := TX4) (N := 15) rfl rfl (by decide) in_X4 wl_1_163 rfl dX4_cartLine_64 (?_ : SdS X 67 [(0, 14), (1, 100)] [11, 0, 5, 14] _)
      refine su_getF hC (ci := 1) (j := 0) (C := RX1) (T := TX1) (N := 12) rfl rfl (by decide) in_X1 wl_1_78 rfl dX4_cartLine_67 (?_ : SdS X 70 [(0, 14), (1, 100)] [0, 0, 5, 14] _)
      refine su_iconst hC dX4_cartLine_70 ⟨by decide, by decide⟩ (?_ : SdS X 71 [(0, 14), (1, 100)] [0, 0, 0, 5, 14] _)
      refine su_isub hC dX4_cartLine_71 (?_ : SdS X 72 [(0, 14), (1, 100)] [0, 0, 5, 14] _)
      refine su_aload_n hC 100 dX4_cartLine_72 rfl (by decide) (by decide) (?_ : SdS X 73 [(0, 14), (1, 100)] [100, 0, 0, 5, 14] _)
      refine su_iconst hC dX4_cartLine_73 ⟨by decide, by decide⟩ (?_ : SdS X 74 [(0, 14), (1, 100)] [0, 100, 0, 0, 5, 14] _)
      refine su_inv0 (τ := []) (τr := [5, 0, 0, 100, 0]) (ci := 4) (q := (RX4, TX4, 15)) hC WG (M_X4_needSaid _) rfl rfl rfl rfl  rfl rfl wl_3_54 wl_3_56 wp_13 wl_1_4 wl_3_57 hd_X4_needSaid (by rw [e3]; decide) (by decide) dX4_cartLine_74 (?_ : SdS X 77 [(0, 14), (1, 100)] [0] _)
      refine su_if_eq (tgt := 98) hC dX4_cartLine_77 rfl (?_ : SdS X 98 [(0, 14), (1, 100)] [] _) (?_ : SdS X 80 [(0, 14), (1, 100)] [] _)
      · exact SdS.weak (by decide) (S_98)
      · refine su_aload_n hC 14 dX4_cartLine_80 rfl (by decide) (by decide) (?_ : SdS X 81 [(0, 14), (1, 100)] [14] _)
        refine su_ldcS hC (tx0 := "bears") (i := 15) rfl (by decide) (by decide) dX4_cartLine_81 (?_ : SdS X 83 [(0, 14), (1, 100)] [5, 14] _)
        refine su_iconst hC dX4_cartLine_83 ⟨by decide, by decide⟩ (?_ : SdS X 84 [(0, 14), (1, 100)] [0, 5, 14] _)
        refine su_bipush hC dX4_cartLine_84 (by decide) (?_ : SdS X 86 [(0, 14), (1, 100)] [0, 0, 5, 14] _)
        refine su_aload_n hC 100 dX4_cartLine_86 rfl (by decide) (by decide) (?_ : SdS X 87 [(0, 14), (1, 100)] [100, 0, 0, 5, 14] _)
        refine su_iconst hC dX4_cartLine_87 ⟨by decide, by decide⟩ (?_ : SdS X 88 [(0, 14), (1, 100)] [0, 100, 0, 0, 5, 14] _)
        refine su_inv0 (τ := []) (τr := [5, 0, 0, 100, 0]) (ci := 4) (q := (RX4, TX4, 15)) hC WG (M_X4_needSaid _) rfl rfl rfl rfl  rfl rfl wl_3_54 wl_3_56 wp_13 wl_1_4 wl_3_57 hd_X4_needSaid (by rw [e3]; decide) (by decide) dX4_cartLine_88 (?_ : SdS X 91 [(0, 14), (1, 100)] [0] _)
        refine su_if_eq (tgt := 98) hC dX4_cartLine_91 rfl (?_ : SdS X 98 [(0, 14), (1, 100)] [] _) (?_ : SdS X 94 [(0, 14), (1, 100)] [] _)
        · exact SdS.weak (by decide) (S_98)
        · refine su_iconst hC dX4_cartLine_94 ⟨by decide, by decide⟩ (?_ : SdS X 95 [(0, 14), (1, 100)] [0] _)
          refine su_goto (tgt := 99) hC dX4_cartLine_95 rfl (?_ : SdS X 99 [(0, 14), (1, 100)] [0] _)
          exact SdS.weak (by decide) (S_99)
  · refine su_iconst hC dX4_cartLine_16 ⟨by decide, by decide⟩ (?_ : SdS X 17 [(0, 14)] [0] _)
    exact su_zreturn hC hT dX4_cartLine_17
theorem wl_1_86 : Cond.fieldLink RX4 154 "NarrowRings$City" "gates" "I" ∈ WALL := tb1 (List.mem_of_getElem? (i := 86) rfl) rfl
theorem wl_1_107 : Cond.fieldLink RX4 160 "NarrowRings$City" "gate" "[[I" ∈ WALL := tb1 (List.mem_of_getElem? (i := 107) rfl) rfl
theorem hd_X4_gateLine : yX4_gateLine.cls ≠ "java/lang/invoke/MethodHandle" ∧ yX4_gateLine.cls ≠ "java/lang/invoke/VarHandle" ∧ (parseMethodDescriptor yX4_gateLine.desc).map (fun d => d.parameters.length) = some 0 := by decide +kernel
set_option maxRecDepth 100000 in
set_option maxHeartbeats 4000000 in
theorem M_X4_gateLine (l : Launch) : MtS l yX4_gateLine (Cond.code yX4_gateLine cX4_gateLine 2 (some .boolean) :: WALL) { frames := 7, cells := 0, slots := 0, locals := 153 } [14] (some 0) T_X4_gateLine := by
  refine MtS.mk (B := E_X4_gateLine) (by decide +kernel) (by decide) (fun _ _ _ hh => hh) ?_
  intro X Q e1 e2 e3 hC hN hT
  subst e1
  have hC : CF X cX4_gateLine RX4 WALL := hC
  have S_160 : SdS X 160 [(0, 14), (1, 100)] [0] (B_X4_gateLine_160 Q) := by
    unfold B_X4_gateLine_160
    exact su_zreturn hC hT dX4_gateLine_160
  have S_159 : SdS X 159 [(0, 14), (1, 100)] [] (B_X4_gateLine_159 Q) := by
    unfold B_X4_gateLine_159
    refine su_iconst hC dX4_gateLine_159 ⟨by decide, by decide⟩ (?_ : SdS X 160 [(0, 14), (1, 100)] [0] _)
    exact SdS.weak (by decide) (S_160)
  refine (?_ : SdS X 0 [(0, 14)] [] (E_X4_gateLine Q))
  unfold E_X4_gateLine
  refine su_aload_n hC 14 dX4_gateLine_0 rfl (by decide) (by decide) (?_ : SdS X 1 [(0, 14)] [14] _)
  refine su_aload_n hC 14 dX4_gateLine_1 rfl (by decide) (by decide) (?_ : SdS X 2 [(0, 14)] [14, 14] _)
  refine su_getR hC (ci := 4) (j := 10) (C := RX4) (T := TX4) (N := 15) rfl rfl (by decide) in_X4 wl_1_163 rfl dX4_gateLine_2 (?_ : SdS X 5 [(0, 14)] [11, 14] _)
  refine su_getF hC (ci := 1) (j := 1) (C := RX1) (T := TX1) (N := 12) rfl rfl (by decide) in_X1 wl_1_86 rfl dX4_gateLine_5 (?_ : SdS X 8 [(0, 14)] [0, 14] _)
  refine su_bipush hC dX4_gateLine_8 (by decide) (?_ : SdS X 10 [(0, 14)] [0, 0, 14] _)
  refine su_inv0 (τ := []) (τr := [0, 0]) (ci := 4) (q := (RX4, TX4, 15)) hC WG (M_X4_mayTellRings _) rfl rfl rfl rfl  rfl rfl wl_3_30 wl_3_32 wp_9 wl_1_4 wl_3_33 hd_X4_mayTellRings (by rw [e3]; decide) (by decide) dX4_gateLine_10 (?_ : SdS X 13 [(0, 14)] [0] _)
  refine su_if_ne (tgt := 18) hC dX4_gateLine_13 rfl (?_ : SdS X 18 [(0, 14)] [] _) (?_ : SdS X 16 [(0, 14)] [] _)
  · refine su_aload_n hC 14 dX4_gateLine_18 rfl (by decide) (by decide) (?_ : SdS X 19 [(0, 14)] [14] _)
    refine su_getR hC (ci := 4) (j := 10) (C := RX4) (T := TX4) (N := 15) rfl rfl (by decide) in_X4 wl_1_163 rfl dX4_gateLine_19 (?_ : SdS X 22 [(0, 14)] [11] _)
    refine su_getR hC (ci := 1) (j := 6) (C := RX1) (T := TX1) (N := 12) rfl rfl (by decide) in_X1 wl_1_107 rfl dX4_gateLine_22 (?_ : SdS X 25 [(0, 14)] [200] _)
    refine su_aload_n hC 14 dX4_gateLine_25 rfl (by decide) (by decide) (?_ : SdS X 26 [(0, 14)] [14, 200] _)
    refine su_getR hC (ci := 4) (j := 10) (C := RX4) (T := TX4) (N := 15) rfl rfl (by decide) in_X4 wl_1_163 rfl dX4_gateLine_26 (?_ : SdS X 29 [(0, 14)] [11, 200] _)
    refine su_getF hC (ci := 1) (j := 1) (C := RX1) (T := TX1) (N := 12) rfl rfl (by decide) in_X1 wl_1_86 rfl dX4_gateLine_29 (?_ : SdS X 32 [(0, 14)] [0, 200] _)
    refine su_aaload (e := 100) hC (List.mem_of_getElem? (i := 7) rfl) rfl rfl rfl dX4_gateLine_32 (?_ : SdS X 33 [(0, 14)] [100] _)
    refine su_astore_n (Γ' := [(0, 14), (1, 100)]) hC dX4_gateLine_33 rfl (by decide) (by rw [e2]; decide) (by decide) (?_ : SdS X 34 [(0, 14), (1, 100)] [] _)
    refine su_aload_n hC 14 dX4_gateLine_34 rfl (by decide) (by decide) (?_ : SdS X 35 [(0, 14), (1, 100)] [14] _)
    refine su_getR hC (ci := 4) (j := 10) (C := RX4) (T := TX4) (N := 15) rfl rfl (by decide) in_X4 wl_1_163 rfl dX4_gateLine_35 (?_ : SdS X 38 [(0, 14), (1, 100)] [11] _)
    refine su_dup hC (by decide) dX4_gateLine_38 (?_ : SdS X 39 [(0, 14), (1, 100)] [11, 11] _)
    refine su_getF hC (ci := 1) (j := 1) (C := RX1) (T := TX1) (N := 12) rfl rfl (by decide) in_X1 wl_1_86 rfl dX4_gateLine_39 (?_ : SdS X 42 [(0, 14), (1, 100)] [0, 11] _)
    refine su_iconst hC dX4_gateLine_42 ⟨by decide, by decide⟩ (?_ : SdS X 43 [(0, 14), (1, 100)] [0, 0, 11] _)
    refine su_iadd hC dX4_gateLine_43 (?_ : SdS X 44 [(0, 14), (1, 100)] [0, 11] _)
    refine su_putF hC (ci := 1) (j := 1) (C := RX1) (T := TX1) (N := 12) tyX1 tyX1_ok nmX1 rfl rfl (by decide) in_X1 rfl rfl wl_1_86 rfl dX4_gateLine_44 (?_ : SdS X 47 [(0, 14), (1, 100)] [] _)
    refine su_aload_n hC 100 dX4_gateLine_47 rfl (by decide) (by decide) (?_ : SdS X 48 [(0, 14), (1, 100)] [100] _)
    refine su_bipush hC dX4_gateLine_48 (by decide) (?_ : SdS X 50 [(0, 14), (1, 100)] [0, 100] _)
    refine su_iconst hC dX4_gateLine_50 ⟨by decide, by decide⟩ (?_ : SdS X 51 [(0, 14), (1, 100)] [0, 0, 100] _)
    refine su_iastore hC dX4_gateLine_51 (?_ : SdS X 52 [(0, 14), (1, 100)] [] _)
    refine su_aload_n hC 14 dX4_gateLine_52 rfl (by decide) (by decide) (?_ : SdS X 53 [(0, 14), (1, 100)] [14] _)
    refine su_inv0v (τ := []) (τr := []) (ci := 4) (q := (RX4, TX4, 15)) hC WG (M_X4_step _) rfl rfl rfl rfl  rfl rfl wl_2_190 wl_2_192 wp_2 wl_1_4 wl_2_193 hd_X4_step (by rw [e3]; decide) (by decide) dX4_gateLine_53 (?_ : SdS X 56 [(0, 14), (1, 100)] [] _)
    refine su_aload_n hC 14 dX4_gateLine_56 rfl (by decide) (by decide) (?_ : SdS X 57 [(0, 14), (1, 100)] [14] _)
    refine su_iconst hC dX4_gateLine_57 ⟨by decide, by decide⟩ (?_ : SdS X 58 [(0, 14), (1, 100)] [0, 14] _)
    refine su_inv0 (τ := []) (τr := [0]) (ci := 4) (q := (RX4, TX4, 15)) hC WG (M_X4_needNewName _) rfl rfl rfl rfl  rfl rfl wl_3_34 wl_3_36 wp_10 wl_1_4 wl_3_37 hd_X4_needNewName (by rw [e3]; decide) (by decide) dX4_gateLine_58 (?_ : SdS X 61 [(0, 14), (1, 100)] [0] _)
    refine su_if_eq (tgt := 159) hC dX4_gateLine_61 rfl (?_ : SdS X 159 [(0, 14), (1, 100)] [] _) (?_ : SdS X 64 [(0, 14), (1, 100)] [] _)
    · exact SdS.weak (by decide) (S_159)
    · refine su_aload_n hC 14 dX4_gateLine_64 rfl (by decide) (by decide) (?_ : SdS X 65 [(0, 14), (1, 100)] [14] _)
      refine su_ldcS hC (tx0 := "in") (i := 9) rfl (by decide) (by decide) dX4_gateLine_65 (?_ : SdS X 67 [(0, 14), (1, 100)] [5, 14] _)
      refine su_iconst hC dX4_gateLine_67 ⟨by decide, by decide⟩ (?_ : SdS X 68 [(0, 14), (1, 100)] [0, 5, 14] _)
      refine su_aload_n hC 14 dX4_gateLine_68 rfl (by decide) (by decide) (?_ : SdS X 69 [(0, 14), (1, 100)] [14, 0, 5, 14] _)
      refine su_getR hC (ci := 4) (j := 10) (C := RX4) (T := TX4) (N := 15) rfl rfl (by decide) in_X4 wl_1_163 rfl dX4_gateLine_69 (?_ : SdS X 72 [(0, 14), (1, 100)] [11, 0, 5, 14] _)
      refine su_getF hC (ci := 1) (j := 0) (C := RX1) (T := TX1) (N := 12) rfl rfl (by decide) in_X1 wl_1_78 rfl dX4_gateLine_72 (?_ : SdS X 75 [(0, 14), (1, 100)] [0, 0, 5, 14] _)
      refine su_iconst hC dX4_gateLine_75 ⟨by decide, by decide⟩ (?_ : SdS X 76 [(0, 14), (1, 100)] [0, 0, 0, 5, 14] _)
      refine su_isub hC dX4_gateLine_76 (?_ : SdS X 77 [(0, 14), (1, 100)] [0, 0, 5, 14] _)
      refine su_aload_n hC 100 dX4_gateLine_77 rfl (by decide) (by decide) (?_ : SdS X 78 [(0, 14), (1, 100)] [100, 0, 0, 5, 14] _)
      refine su_iconst hC dX4_gateLine_78 ⟨by decide, by decide⟩ (?_ : SdS X 79 [(0, 14), (1, 100)] [0, 100, 0, 0, 5, 14] _)
      refine su_inv0 (τ := []) (τr := [5, 0, 0, 100, 0]) (ci := 4) (q := (RX4, TX4, 15)) hC WG (M_X4_needSaid _) rfl rfl rfl rfl  rfl rfl wl_3_54 wl_3_56 wp_13 wl_1_4 wl_3_57 hd_X4_needSaid (by rw [e3]; decide) (by decide) dX4_gateLine_79 (?_ : SdS X 82 [(0, 14), (1, 100)] [0] _)
      refine su_if_eq (tgt := 159) hC dX4_gateLine_82 rfl (?_ : SdS X 159 [(0, 14), (1, 100)] [] _) (?_ : SdS X 85 [(0, 14), (1, 100)] [] _)
      · exact SdS.weak (by decide) (S_159)
      · refine su_aload_n hC 14 dX4_gateLine_85 rfl (by decide) (by decide) (?_ : SdS X 86 [(0, 14), (1, 100)] [14] _)
        refine su_ldcS hC (tx0 := "at") (i := 10) rfl (by decide) (by decide) dX4_gateLine_86 (?_ : SdS X 88 [(0, 14), (1, 100)] [5, 14] _)
        refine su_iconst hC dX4_gateLine_88 ⟨by decide, by decide⟩ (?_ : SdS X 89 [(0, 14), (1, 100)] [0, 5, 14] _)
        refine su_bipush hC dX4_gateLine_89 (by decide) (?_ : SdS X 91 [(0, 14), (1, 100)] [0, 0, 5, 14] _)
        refine su_aload_n hC 100 dX4_gateLine_91 rfl (by decide) (by decide) (?_ : SdS X 92 [(0, 14), (1, 100)] [100, 0, 0, 5, 14] _)
        refine su_iconst hC dX4_gateLine_92 ⟨by decide, by decide⟩ (?_ : SdS X 93 [(0, 14), (1, 100)] [0, 100, 0, 0, 5, 14] _)
        refine su_inv0 (τ := []) (τr := [5, 0, 0, 100, 0]) (ci := 4) (q := (RX4, TX4, 15)) hC WG (M_X4_needSaid _) rfl rfl rfl rfl  rfl rfl wl_3_54 wl_3_56 wp_13 wl_1_4 wl_3_57 hd_X4_needSaid (by rw [e3]; decide) (by decide) dX4_gateLine_93 (?_ : SdS X 96 [(0, 14), (1, 100)] [0] _)
        refine su_if_eq (tgt := 159) hC dX4_gateLine_96 rfl (?_ : SdS X 159 [(0, 14), (1, 100)] [] _) (?_ : SdS X 99 [(0, 14), (1, 100)] [] _)
        · exact SdS.weak (by decide) (S_159)
        · refine su_aload_n hC 14 dX4_gateLine_99 rfl (by decide) (by decide) (?_ : SdS X 100 [(0, 14), (1, 100)] [14] _)
          refine su_ldcS hC (tx0 := "wide") (i := 11) rfl (by decide) (by decide) dX4_gateLine_100 (?_ : SdS X 102 [(0, 14), (1, 100)] [5, 14] _)
          refine su_iconst hC dX4_gateLine_102 ⟨by decide, by decide⟩ (?_ : SdS X 103 [(0, 14), (1, 100)] [0, 5, 14] _)
          refine su_bipush hC dX4_gateLine_103 (by decide) (?_ : SdS X 105 [(0, 14), (1, 100)] [0, 0, 5, 14] _)
          refine su_aload_n hC 100 dX4_gateLine_105 rfl (by decide) (by decide) (?_ : SdS X 106 [(0, 14), (1, 100)] [100, 0, 0, 5, 14] _)
          refine su_iconst hC dX4_gateLine_106 ⟨by decide, by decide⟩ (?_ : SdS X 107 [(0, 14), (1, 100)] [0, 100, 0, 0, 5, 14] _)
          refine su_inv0 (τ := []) (τr := [5, 0, 0, 100, 0]) (ci := 4) (q := (RX4, TX4, 15)) hC WG (M_X4_needSaid _) rfl rfl rfl rfl  rfl rfl wl_3_54 wl_3_56 wp_13 wl_1_4 wl_3_57 hd_X4_needSaid (by rw [e3]; decide) (by decide) dX4_gateLine_107 (?_ : SdS X 110 [(0, 14), (1, 100)] [0] _)
          refine su_if_eq (tgt := 159) hC dX4_gateLine_110 rfl (?_ : SdS X 159 [(0, 14), (1, 100)] [] _) (?_ : SdS X 113 [(0, 14), (1, 100)] [] _)
          · exact SdS.weak (by decide) (S_159)
          · refine su_aload_n hC 14 dX4_gateLine_113 rfl (by decide) (by decide) (?_ : SdS X 114 [(0, 14), (1, 100)] [14] _)
            refine su_ldcS hC (tx0 := "high") (i := 12) rfl (by decide) (by decide) dX4_gateLine_114 (?_ : SdS X 116 [(0, 14), (1, 100)] [5, 14] _)
            refine su_iconst hC dX4_gateLine_116 ⟨by decide, by decide⟩ (?_ : SdS X 117 [(0, 14), (1, 100)] [0, 5, 14] _)
            refine su_bipush hC dX4_gateLine_117 (by decide) (?_ : SdS X 119 [(0, 14), (1, 100)] [0, 0, 5, 14] _)
            refine su_aload_n hC 100 dX4_gateLine_119 rfl (by decide) (by decide) (?_ : SdS X 120 [(0, 14), (1, 100)] [100, 0, 0, 5, 14] _)
            refine su_iconst hC dX4_gateLine_120 ⟨by decide, by decide⟩ (?_ : SdS X 121 [(0, 14), (1, 100)] [0, 100, 0, 0, 5, 14] _)
            refine su_inv0 (τ := []) (τr := [5, 0, 0, 100, 0]) (ci := 4) (q := (RX4, TX4, 15)) hC WG (M_X4_needSaid _) rfl rfl rfl rfl  rfl rfl wl_3_54 wl_3_56 wp_13 wl_1_4 wl_3_57 hd_X4_needSaid (by rw [e3]; decide) (by decide) dX4_gateLine_121 (?_ : SdS X 124 [(0, 14), (1, 100)] [0] _)
            refine su_if_eq (tgt := 159) hC dX4_gateLine_124 rfl (?_ : SdS X 159 [(0, 14), (1, 100)] [] _) (?_ : SdS X 127 [(0, 14), (1, 100)] [] _)
            · exact SdS.weak (by decide) (S_159)
            · refine su_aload_n hC 14 dX4_gateLine_127 rfl (by decide) (by decide) (?_ : SdS X 128 [(0, 14), (1, 100)] [14] _)
              refine su_ldcS hC (tx0 := "hands") (i := 13) rfl (by decide) (by decide) dX4_gateLine_128 (?_ : SdS X 130 [(0, 14), (1, 100)] [5, 14] _)
              refine su_iconst hC dX4_gateLine_130 ⟨by decide, by decide⟩ (?_ : SdS X 131 [(0, 14), (1, 100)] [0, 5, 14] _)
              refine su_bipush hC dX4_gateLine_131 (by decide) (?_ : SdS X 133 [(0, 14), (1, 100)] [0, 0, 5, 14] _)
              refine su_aload_n hC 100 dX4_gateLine_133 rfl (by decide) (by decide) (?_ : SdS X 134 [(0, 14), (1, 100)] [100, 0, 0, 5, 14] _)
              refine su_iconst hC dX4_gateLine_134 ⟨by decide, by decide⟩ (?_ : SdS X 135 [(0, 14), (1, 100)] [0, 100, 0, 0, 5, 14] _)
              refine su_inv0 (τ := []) (τr := [5, 0, 0, 100, 0]) (ci := 4) (q := (RX4, TX4, 15)) hC WG (M_X4_needSaid _) rfl rfl rfl rfl  rfl rfl wl_3_54 wl_3_56 wp_13 wl_1_4 wl_3_57 hd_X4_needSaid (by rw [e3]; decide) (by decide) dX4_gateLine_135 (?_ : SdS X 138 [(0, 14), (1, 100)] [0] _)
              refine su_if_eq (tgt := 159) hC dX4_gateLine_138 rfl (?_ : SdS X 159 [(0, 14), (1, 100)] [] _) (?_ : SdS X 141 [(0, 14), (1, 100)] [] _)
              · exact SdS.weak (by decide) (S_159)
              · refine su_aload_n hC 14 dX4_gateLine_141 rfl (by decide) (by decide) (?_ : SdS X 142 [(0, 14), (1, 100)] [14] _)
                refine su_ldcS hC (tx0 := "toll") (i := 14) rfl (by decide) (by decide) dX4_gateLine_142 (?_ : SdS X 144 [(0, 14), (1, 100)] [5, 14] _)
                refine su_iconst hC dX4_gateLine_144 ⟨by decide, by decide⟩ (?_ : SdS X 145 [(0, 14), (1, 100)] [0, 5, 14] _)
                refine su_bipush hC dX4_gateLine_145 (by decide) (?_ : SdS X 147 [(0, 14), (1, 100)] [0, 0, 5, 14] _)
                refine su_aload_n hC 100 dX4_gateLine_147 rfl (by decide) (by decide) (?_ : SdS X 148 [(0, 14), (1, 100)] [100, 0, 0, 5, 14] _)
                refine su_iconst hC dX4_gateLine_148 ⟨by decide, by decide⟩ (?_ : SdS X 149 [(0, 14), (1, 100)] [0, 100, 0, 0, 5, 14] _)
                refine su_inv0 (τ := []) (τr := [5, 0, 0, 100, 0]) (ci := 4) (q := (RX4, TX4, 15)) hC WG (M_X4_needSaid _) rfl rfl rfl rfl  rfl rfl wl_3_54 wl_3_56 wp_13 wl_1_4 wl_3_57 hd_X4_needSaid (by rw [e3]; decide) (by decide) dX4_gateLine_149 (?_ : SdS X 152 [(0, 14), (1, 100)] [0] _)
                refine su_if_eq (tgt := 159) hC dX4_gateLine_152 rfl (?_ : SdS X 159 [(0, 14), (1, 100)] [] _) (?_ : SdS X 155 [(0, 14), (1, 100)] [] _)
                · exact SdS.weak (by decide) (S_159)
                · refine su_iconst hC dX4_gateLine_155 ⟨by decide, by decide⟩ (?_ : SdS X 156 [(0, 14), (1, 100)] [0] _)
                  refine su_goto (tgt := 160) hC dX4_gateLine_156 rfl (?_ : SdS X 160 [(0, 14), (1, 100)] [0] _)
                  exact SdS.weak (by decide) (S_160)
  · refine su_iconst hC dX4_gateLine_16 ⟨by decide, by decide⟩ (?_ : SdS X 17 [(0, 14)] [0] _)
    exact su_zreturn hC hT dX4_gateLine_17
theorem hd_X6_measure : yX6_measure.cls ≠ "java/lang/invoke/MethodHandle" ∧ yX6_measure.cls ≠ "java/lang/invoke/VarHandle" ∧ (parseMethodDescriptor yX6_measure.desc).map (fun d => d.parameters.length) = some 3 := by decide +kernel
set_option maxRecDepth 100000 in
set_option maxHeartbeats 4000000 in
theorem M_X6_measure (l : Launch) : MtS l yX6_measure (Cond.code yX6_measure cX6_measure 4 none :: WALL) { frames := 0, cells := 0, slots := 0, locals := 0 } [16, 0, 0, 0] none T_X6_measure := by
  refine MtS.mk (B := E_X6_measure) (by decide +kernel) (by decide) (fun _ _ _ hh => hh) ?_
  intro X Q e1 e2 e3 hC hN hT
  subst e1
  have hC : CF X cX6_measure RX6 WALL := hC
  refine (?_ : SdS X 0 [(0, 16), (1, 0), (2, 0), (3, 0)] [] (E_X6_measure Q))
  unfold E_X6_measure
  refine su_aload_n hC 16 dX6_measure_0 rfl (by decide) (by decide) (?_ : SdS X 1 [(0, 16), (1, 0), (2, 0), (3, 0)] [16] _)
  refine su_getR hC (ci := 6) (j := 0) (C := RX6) (T := TX6) (N := 7) rfl rfl (by decide) in_X6 wl_1_46 rfl dX6_measure_1 (?_ : SdS X 4 [(0, 16), (1, 0), (2, 0), (3, 0)] [100] _)
  refine su_iconst hC dX6_measure_4 ⟨by decide, by decide⟩ (?_ : SdS X 5 [(0, 16), (1, 0), (2, 0), (3, 0)] [0, 100] _)
  refine su_iload_n hC dX6_measure_5 rfl (by decide) (?_ : SdS X 6 [(0, 16), (1, 0), (2, 0), (3, 0)] [0, 0, 100] _)
  refine su_iastore hC dX6_measure_6 (?_ : SdS X 7 [(0, 16), (1, 0), (2, 0), (3, 0)] [] _)
  refine su_aload_n hC 16 dX6_measure_7 rfl (by decide) (by decide) (?_ : SdS X 8 [(0, 16), (1, 0), (2, 0), (3, 0)] [16] _)
  refine su_getR hC (ci := 6) (j := 1) (C := RX6) (T := TX6) (N := 7) rfl rfl (by decide) in_X6 wl_1_48 rfl dX6_measure_8 (?_ : SdS X 11 [(0, 16), (1, 0), (2, 0), (3, 0)] [100] _)
  refine su_iconst hC dX6_measure_11 ⟨by decide, by decide⟩ (?_ : SdS X 12 [(0, 16), (1, 0), (2, 0), (3, 0)] [0, 100] _)
  refine su_iload_n hC dX6_measure_12 rfl (by decide) (?_ : SdS X 13 [(0, 16), (1, 0), (2, 0), (3, 0)] [0, 0, 100] _)
  refine su_iastore hC dX6_measure_13 (?_ : SdS X 14 [(0, 16), (1, 0), (2, 0), (3, 0)] [] _)
  refine su_aload_n hC 16 dX6_measure_14 rfl (by decide) (by decide) (?_ : SdS X 15 [(0, 16), (1, 0), (2, 0), (3, 0)] [16] _)
  refine su_getR hC (ci := 6) (j := 2) (C := RX6) (T := TX6) (N := 7) rfl rfl (by decide) in_X6 wl_1_50 rfl dX6_measure_15 (?_ : SdS X 18 [(0, 16), (1, 0), (2, 0), (3, 0)] [100] _)
  refine su_iconst hC dX6_measure_18 ⟨by decide, by decide⟩ (?_ : SdS X 19 [(0, 16), (1, 0), (2, 0), (3, 0)] [0, 100] _)
  refine su_iload_n hC dX6_measure_19 rfl (by decide) (?_ : SdS X 20 [(0, 16), (1, 0), (2, 0), (3, 0)] [0, 0, 100] _)
  refine su_iastore hC dX6_measure_20 (?_ : SdS X 21 [(0, 16), (1, 0), (2, 0), (3, 0)] [] _)
  refine su_aload_n hC 16 dX6_measure_21 rfl (by decide) (by decide) (?_ : SdS X 22 [(0, 16), (1, 0), (2, 0), (3, 0)] [16] _)
  refine su_getR hC (ci := 6) (j := 0) (C := RX6) (T := TX6) (N := 7) rfl rfl (by decide) in_X6 wl_1_46 rfl dX6_measure_22 (?_ : SdS X 25 [(0, 16), (1, 0), (2, 0), (3, 0)] [100] _)
  refine su_iconst hC dX6_measure_25 ⟨by decide, by decide⟩ (?_ : SdS X 26 [(0, 16), (1, 0), (2, 0), (3, 0)] [0, 100] _)
  refine su_iload_n hC dX6_measure_26 rfl (by decide) (?_ : SdS X 27 [(0, 16), (1, 0), (2, 0), (3, 0)] [0, 0, 100] _)
  refine su_iastore hC dX6_measure_27 (?_ : SdS X 28 [(0, 16), (1, 0), (2, 0), (3, 0)] [] _)
  refine su_aload_n hC 16 dX6_measure_28 rfl (by decide) (by decide) (?_ : SdS X 29 [(0, 16), (1, 0), (2, 0), (3, 0)] [16] _)
  refine su_getR hC (ci := 6) (j := 1) (C := RX6) (T := TX6) (N := 7) rfl rfl (by decide) in_X6 wl_1_48 rfl dX6_measure_29 (?_ : SdS X 32 [(0, 16), (1, 0), (2, 0), (3, 0)] [100] _)
  refine su_iconst hC dX6_measure_32 ⟨by decide, by decide⟩ (?_ : SdS X 33 [(0, 16), (1, 0), (2, 0), (3, 0)] [0, 100] _)
  refine su_iload_n hC dX6_measure_33 rfl (by decide) (?_ : SdS X 34 [(0, 16), (1, 0), (2, 0), (3, 0)] [0, 0, 100] _)
  refine su_iastore hC dX6_measure_34 (?_ : SdS X 35 [(0, 16), (1, 0), (2, 0), (3, 0)] [] _)
  refine su_aload_n hC 16 dX6_measure_35 rfl (by decide) (by decide) (?_ : SdS X 36 [(0, 16), (1, 0), (2, 0), (3, 0)] [16] _)
  refine su_getR hC (ci := 6) (j := 2) (C := RX6) (T := TX6) (N := 7) rfl rfl (by decide) in_X6 wl_1_50 rfl dX6_measure_36 (?_ : SdS X 39 [(0, 16), (1, 0), (2, 0), (3, 0)] [100] _)
  refine su_iconst hC dX6_measure_39 ⟨by decide, by decide⟩ (?_ : SdS X 40 [(0, 16), (1, 0), (2, 0), (3, 0)] [0, 100] _)
  refine su_iload_n hC dX6_measure_40 rfl (by decide) (?_ : SdS X 41 [(0, 16), (1, 0), (2, 0), (3, 0)] [0, 0, 100] _)
  refine su_iastore hC dX6_measure_41 (?_ : SdS X 42 [(0, 16), (1, 0), (2, 0), (3, 0)] [] _)
  refine su_aload_n hC 16 dX6_measure_42 rfl (by decide) (by decide) (?_ : SdS X 43 [(0, 16), (1, 0), (2, 0), (3, 0)] [16] _)
  refine su_getR hC (ci := 6) (j := 0) (C := RX6) (T := TX6) (N := 7) rfl rfl (by decide) in_X6 wl_1_46 rfl dX6_measure_43 (?_ : SdS X 46 [(0, 16), (1, 0), (2, 0), (3, 0)] [100] _)
  refine su_iconst hC dX6_measure_46 ⟨by decide, by decide⟩ (?_ : SdS X 47 [(0, 16), (1, 0), (2, 0), (3, 0)] [0, 100] _)
  refine su_iload_n hC dX6_measure_47 rfl (by decide) (?_ : SdS X 48 [(0, 16), (1, 0), (2, 0), (3, 0)] [0, 0, 100] _)
  refine su_iastore hC dX6_measure_48 (?_ : SdS X 49 [(0, 16), (1, 0), (2, 0), (3, 0)] [] _)
  refine su_aload_n hC 16 dX6_measure_49 rfl (by decide) (by decide) (?_ : SdS X 50 [(0, 16), (1, 0), (2, 0), (3, 0)] [16] _)
  refine su_getR hC (ci := 6) (j := 1) (C := RX6) (T := TX6) (N := 7) rfl rfl (by decide) in_X6 wl_1_48 rfl dX6_measure_50 (?_ : SdS X 53 [(0, 16), (1, 0), (2, 0), (3, 0)] [100] _)
  refine su_iconst hC dX6_measure_53 ⟨by decide, by decide⟩ (?_ : SdS X 54 [(0, 16), (1, 0), (2, 0), (3, 0)] [0, 100] _)
  refine su_iload_n hC dX6_measure_54 rfl (by decide) (?_ : SdS X 55 [(0, 16), (1, 0), (2, 0), (3, 0)] [0, 0, 100] _)
  refine su_iastore hC dX6_measure_55 (?_ : SdS X 56 [(0, 16), (1, 0), (2, 0), (3, 0)] [] _)
  refine su_aload_n hC 16 dX6_measure_56 rfl (by decide) (by decide) (?_ : SdS X 57 [(0, 16), (1, 0), (2, 0), (3, 0)] [16] _)
  refine su_getR hC (ci := 6) (j := 2) (C := RX6) (T := TX6) (N := 7) rfl rfl (by decide) in_X6 wl_1_50 rfl dX6_measure_57 (?_ : SdS X 60 [(0, 16), (1, 0), (2, 0), (3, 0)] [100] _)
  refine su_iconst hC dX6_measure_60 ⟨by decide, by decide⟩ (?_ : SdS X 61 [(0, 16), (1, 0), (2, 0), (3, 0)] [0, 100] _)
  refine su_iload_n hC dX6_measure_61 rfl (by decide) (?_ : SdS X 62 [(0, 16), (1, 0), (2, 0), (3, 0)] [0, 0, 100] _)
  refine su_iastore hC dX6_measure_62 (?_ : SdS X 63 [(0, 16), (1, 0), (2, 0), (3, 0)] [] _)
  exact su_return hC hT dX6_measure_63
theorem wl_1_167 : Cond.fieldLink RX4 28 "NarrowRings$Reader" "measure" "[I" ∈ WALL := tb1 (List.mem_of_getElem? (i := 167) rfl) rfl
theorem wl_3_99 : Cond.methodLink RX4 220 yX6_measure ∈ WALL := tb3 (List.mem_of_getElem? (i := 99) rfl) rfl
theorem wl_3_100 : Cond.instanceMethod yX6_measure ∈ WALL := tb3 (List.mem_of_getElem? (i := 100) rfl) rfl
theorem wl_3_101 : Cond.selects RX6 yX6_measure yX6_measure ∈ WALL := tb3 (List.mem_of_getElem? (i := 101) rfl) rfl
theorem wl_3_102 : Cond.code yX6_measure cX6_measure 4 none ∈ WALL := tb3 (List.mem_of_getElem? (i := 102) rfl) rfl
theorem wl_1_53 : Cond.fieldLink RX4 225 "NarrowRings$Thing" "weight" "I" ∈ WALL := tb1 (List.mem_of_getElem? (i := 53) rfl) rfl
theorem wl_1_56 : Cond.fieldLink RX4 228 "NarrowRings$Thing" "loads" "I" ∈ WALL := tb1 (List.mem_of_getElem? (i := 56) rfl) rfl
theorem wl_1_60 : Cond.fieldLink RX4 231 "NarrowRings$Thing" "tilts" "Z" ∈ WALL := tb1 (List.mem_of_getElem? (i := 60) rfl) rfl
theorem wl_1_58 : Cond.fieldLink RX4 234 "NarrowRings$Thing" "turns" "Z" ∈ WALL := tb1 (List.mem_of_getElem? (i := 58) rfl) rfl
theorem hd_X4_shape : yX4_shape.cls ≠ "java/lang/invoke/MethodHandle" ∧ yX4_shape.cls ≠ "java/lang/invoke/VarHandle" ∧ (parseMethodDescriptor yX4_shape.desc).map (fun d => d.parameters.length) = some 4 := by decide +kernel
set_option maxRecDepth 100000 in
set_option maxHeartbeats 4000000 in
theorem M_X4_shape (l : Launch) : MtS l yX4_shape (Cond.code yX4_shape cX4_shape 5 none :: WALL) { frames := 1, cells := 0, slots := 0, locals := 23 } [14, 16, 0, 0, 0] none T_X4_shape := by
  refine MtS.mk (B := E_X4_shape) (by decide +kernel) (by decide) (fun _ _ _ hh => hh) ?_
  intro X Q e1 e2 e3 hC hN hT
  subst e1
  have hC : CF X cX4_shape RX4 WALL := hC
  refine (?_ : SdS X 0 [(0, 14), (1, 16), (2, 0), (3, 0), (4, 0)] [] (E_X4_shape Q))
  unfold E_X4_shape
  refine su_aload_n hC 16 dX4_shape_0 rfl (by decide) (by decide) (?_ : SdS X 1 [(0, 14), (1, 16), (2, 0), (3, 0), (4, 0)] [16] _)
  refine su_aload_n hC 14 dX4_shape_1 rfl (by decide) (by decide) (?_ : SdS X 2 [(0, 14), (1, 16), (2, 0), (3, 0), (4, 0)] [14, 16] _)
  refine su_getR hC (ci := 4) (j := 14) (C := RX4) (T := TX4) (N := 15) rfl rfl (by decide) in_X4 wl_1_167 rfl dX4_shape_2 (?_ : SdS X 5 [(0, 14), (1, 16), (2, 0), (3, 0), (4, 0)] [100, 16] _)
  refine su_iconst hC dX4_shape_5 ⟨by decide, by decide⟩ (?_ : SdS X 6 [(0, 14), (1, 16), (2, 0), (3, 0), (4, 0)] [0, 100, 16] _)
  refine su_iaload hC dX4_shape_6 (?_ : SdS X 7 [(0, 14), (1, 16), (2, 0), (3, 0), (4, 0)] [0, 16] _)
  refine su_iload_n hC dX4_shape_7 rfl (by decide) (?_ : SdS X 8 [(0, 14), (1, 16), (2, 0), (3, 0), (4, 0)] [0, 0, 16] _)
  refine su_invs (τ := [16]) (τs := [0, 0]) hC true "NarrowRings" WG (M_X8_upwards _) rfl rfl rfl rfl (by decide) wl_3_97 wl_1_1 wl_3_98 hd_X8_upwards (by rw [e3]; decide) (by decide) dX4_shape_8 (?_ : SdS X 11 [(0, 14), (1, 16), (2, 0), (3, 0), (4, 0)] [0, 16] _)
  refine su_aload_n hC 14 dX4_shape_11 rfl (by decide) (by decide) (?_ : SdS X 12 [(0, 14), (1, 16), (2, 0), (3, 0), (4, 0)] [14, 0, 16] _)
  refine su_getR hC (ci := 4) (j := 14) (C := RX4) (T := TX4) (N := 15) rfl rfl (by decide) in_X4 wl_1_167 rfl dX4_shape_12 (?_ : SdS X 15 [(0, 14), (1, 16), (2, 0), (3, 0), (4, 0)] [100, 0, 16] _)
  refine su_iconst hC dX4_shape_15 ⟨by decide, by decide⟩ (?_ : SdS X 16 [(0, 14), (1, 16), (2, 0), (3, 0), (4, 0)] [0, 100, 0, 16] _)
  refine su_iaload hC dX4_shape_16 (?_ : SdS X 17 [(0, 14), (1, 16), (2, 0), (3, 0), (4, 0)] [0, 0, 16] _)
  refine su_aload_n hC 14 dX4_shape_17 rfl (by decide) (by decide) (?_ : SdS X 18 [(0, 14), (1, 16), (2, 0), (3, 0), (4, 0)] [14, 0, 0, 16] _)
  refine su_getR hC (ci := 4) (j := 14) (C := RX4) (T := TX4) (N := 15) rfl rfl (by decide) in_X4 wl_1_167 rfl dX4_shape_18 (?_ : SdS X 21 [(0, 14), (1, 16), (2, 0), (3, 0), (4, 0)] [100, 0, 0, 16] _)
  refine su_iconst hC dX4_shape_21 ⟨by decide, by decide⟩ (?_ : SdS X 22 [(0, 14), (1, 16), (2, 0), (3, 0), (4, 0)] [0, 100, 0, 0, 16] _)
  refine su_iaload hC dX4_shape_22 (?_ : SdS X 23 [(0, 14), (1, 16), (2, 0), (3, 0), (4, 0)] [0, 0, 0, 16] _)
  refine su_inv0v (τ := []) (τr := [0, 0, 0]) (ci := 6) (q := (RX6, TX6, 7)) hC WG (M_X6_measure _) rfl rfl rfl rfl  rfl rfl wl_3_99 wl_3_100 wl_3_101 wl_1_3 wl_3_102 hd_X6_measure (by rw [e3]; decide) (by decide) dX4_shape_23 (?_ : SdS X 26 [(0, 14), (1, 16), (2, 0), (3, 0), (4, 0)] [] _)
  refine su_aload_n hC 16 dX4_shape_26 rfl (by decide) (by decide) (?_ : SdS X 27 [(0, 14), (1, 16), (2, 0), (3, 0), (4, 0)] [16] _)
  refine su_aload_n hC 14 dX4_shape_27 rfl (by decide) (by decide) (?_ : SdS X 28 [(0, 14), (1, 16), (2, 0), (3, 0), (4, 0)] [14, 16] _)
  refine su_getR hC (ci := 4) (j := 14) (C := RX4) (T := TX4) (N := 15) rfl rfl (by decide) in_X4 wl_1_167 rfl dX4_shape_28 (?_ : SdS X 31 [(0, 14), (1, 16), (2, 0), (3, 0), (4, 0)] [100, 16] _)
  refine su_iconst hC dX4_shape_31 ⟨by decide, by decide⟩ (?_ : SdS X 32 [(0, 14), (1, 16), (2, 0), (3, 0), (4, 0)] [0, 100, 16] _)
  refine su_iaload hC dX4_shape_32 (?_ : SdS X 33 [(0, 14), (1, 16), (2, 0), (3, 0), (4, 0)] [0, 16] _)
  refine su_iload_n hC dX4_shape_33 rfl (by decide) (?_ : SdS X 34 [(0, 14), (1, 16), (2, 0), (3, 0), (4, 0)] [0, 0, 16] _)
  refine su_invs (τ := [16]) (τs := [0, 0]) hC true "NarrowRings" WG (M_X8_upwards _) rfl rfl rfl rfl (by decide) wl_3_97 wl_1_1 wl_3_98 hd_X8_upwards (by rw [e3]; decide) (by decide) dX4_shape_34 (?_ : SdS X 37 [(0, 14), (1, 16), (2, 0), (3, 0), (4, 0)] [0, 16] _)
  refine su_putF hC (ci := 6) (j := 3) (C := RX6) (T := TX6) (N := 7) tyX6 tyX6_ok nmX6 rfl rfl (by decide) in_X6 rfl rfl wl_1_53 rfl dX4_shape_37 (?_ : SdS X 40 [(0, 14), (1, 16), (2, 0), (3, 0), (4, 0)] [] _)
  refine su_aload_n hC 16 dX4_shape_40 rfl (by decide) (by decide) (?_ : SdS X 41 [(0, 14), (1, 16), (2, 0), (3, 0), (4, 0)] [16] _)
  refine su_iload_n hC dX4_shape_41 rfl (by decide) (?_ : SdS X 42 [(0, 14), (1, 16), (2, 0), (3, 0), (4, 0)] [0, 16] _)
  refine su_putF hC (ci := 6) (j := 4) (C := RX6) (T := TX6) (N := 7) tyX6 tyX6_ok nmX6 rfl rfl (by decide) in_X6 rfl rfl wl_1_56 rfl dX4_shape_42 (?_ : SdS X 45 [(0, 14), (1, 16), (2, 0), (3, 0), (4, 0)] [] _)
  refine su_aload_n hC 16 dX4_shape_45 rfl (by decide) (by decide) (?_ : SdS X 46 [(0, 14), (1, 16), (2, 0), (3, 0), (4, 0)] [16] _)
  refine su_iload_n hC dX4_shape_46 rfl (by decide) (?_ : SdS X 47 [(0, 14), (1, 16), (2, 0), (3, 0), (4, 0)] [0, 16] _)
  refine su_putz hC (ci := 6) (j := 6) (C := RX6) (T := TX6) (N := 7) tyX6 tyX6_ok nmX6 rfl rfl (by decide) in_X6 rfl rfl rfl wl_1_60 rfl dX4_shape_47 (?_ : SdS X 50 [(0, 14), (1, 16), (2, 0), (3, 0), (4, 0)] [] _)
  refine su_aload_n hC 16 dX4_shape_50 rfl (by decide) (by decide) (?_ : SdS X 51 [(0, 14), (1, 16), (2, 0), (3, 0), (4, 0)] [16] _)
  refine su_iload hC dX4_shape_51 (by decide) (?_ : SdS X 53 [(0, 14), (1, 16), (2, 0), (3, 0), (4, 0)] [0, 16] _)
  refine su_putz hC (ci := 6) (j := 5) (C := RX6) (T := TX6) (N := 7) tyX6 tyX6_ok nmX6 rfl rfl (by decide) in_X6 rfl rfl rfl wl_1_58 rfl dX4_shape_53 (?_ : SdS X 56 [(0, 14), (1, 16), (2, 0), (3, 0), (4, 0)] [] _)
  exact su_return hC hT dX4_shape_56
theorem wl_1_118 : Cond.fieldLink RX4 205 "NarrowRings$City" "whole" "[LNarrowRings$Thing;" ∈ WALL := tb1 (List.mem_of_getElem? (i := 118) rfl) rfl
theorem wl_3_92 : Cond.methodLink RX4 209 yX4_shape ∈ WALL := tb3 (List.mem_of_getElem? (i := 92) rfl) rfl
theorem wl_3_94 : Cond.instanceMethod yX4_shape ∈ WALL := tb3 (List.mem_of_getElem? (i := 94) rfl) rfl
theorem wp_20 : Cond.selects RX4 yX4_shape yX4_shape ∈ WALL := tbS (List.mem_of_getElem? (i := 20) rfl)
theorem wl_3_95 : Cond.code yX4_shape cX4_shape 5 none ∈ WALL := tb3 (List.mem_of_getElem? (i := 95) rfl) rfl
theorem wl_1_120 : Cond.fieldLink RX4 213 "NarrowRings$City" "part" "[LNarrowRings$Thing;" ∈ WALL := tb1 (List.mem_of_getElem? (i := 120) rfl) rfl
theorem hd_X4_goodKind : yX4_goodKind.cls ≠ "java/lang/invoke/MethodHandle" ∧ yX4_goodKind.cls ≠ "java/lang/invoke/VarHandle" ∧ (parseMethodDescriptor yX4_goodKind.desc).map (fun d => d.parameters.length) = some 1 := by decide +kernel
set_option maxRecDepth 100000 in
set_option maxHeartbeats 4000000 in
theorem M_X4_goodKind (l : Launch) : MtS l yX4_goodKind (Cond.code yX4_goodKind cX4_goodKind 5 (some .boolean) :: WALL) { frames := 5, cells := 0, slots := 0, locals := 107 } [14, 0] (some 0) T_X4_goodKind := by
  refine MtS.mk (B := E_X4_goodKind) (by decide +kernel) (by decide) (fun _ _ _ hh => hh) ?_
  intro X Q e1 e2 e3 hC hN hT
  subst e1
  have hC : CF X cX4_goodKind RX4 WALL := hC
  have S_120 : SdS X 120 [(0, 14), (1, 0), (2, 0), (3, 0), (4, 0)] [0, 0, 0, 16, 14] (B_X4_goodKind_120 Q) := by
    unfold B_X4_goodKind_120
    refine su_inv0v (τ := []) (τr := [16, 0, 0, 0]) (ci := 4) (q := (RX4, TX4, 15)) hC WG (M_X4_shape _) rfl rfl rfl rfl  rfl rfl wl_3_92 wl_3_94 wp_20 wl_1_4 wl_3_95 hd_X4_shape (by rw [e3]; decide) (by decide) dX4_goodKind_120 (?_ : SdS X 123 [(0, 14), (1, 0), (2, 0), (3, 0), (4, 0)] [] _)
    refine su_iconst hC dX4_goodKind_123 ⟨by decide, by decide⟩ (?_ : SdS X 124 [(0, 14), (1, 0), (2, 0), (3, 0), (4, 0)] [0] _)
    exact su_zreturn hC hT dX4_goodKind_124
  have S_109 : SdS X 109 [(0, 14), (1, 0), (2, 0), (3, 0), (4, 0)] [0, 16, 14] (B_X4_goodKind_109 Q) := by
    unfold B_X4_goodKind_109
    refine su_iload_n hC dX4_goodKind_109 rfl (by decide) (?_ : SdS X 110 [(0, 14), (1, 0), (2, 0), (3, 0), (4, 0)] [0, 0, 16, 14] _)
    refine su_iload hC dX4_goodKind_110 (by decide) (?_ : SdS X 112 [(0, 14), (1, 0), (2, 0), (3, 0), (4, 0)] [0, 0, 0, 16, 14] _)
    refine su_if_ne (tgt := 119) hC dX4_goodKind_112 rfl (?_ : SdS X 119 [(0, 14), (1, 0), (2, 0), (3, 0), (4, 0)] [0, 0, 16, 14] _) (?_ : SdS X 115 [(0, 14), (1, 0), (2, 0), (3, 0), (4, 0)] [0, 0, 16, 14] _)
    · refine su_iconst hC dX4_goodKind_119 ⟨by decide, by decide⟩ (?_ : SdS X 120 [(0, 14), (1, 0), (2, 0), (3, 0), (4, 0)] [0, 0, 0, 16, 14] _)
      exact SdS.weak (by decide) (S_120)
    · refine su_iconst hC dX4_goodKind_115 ⟨by decide, by decide⟩ (?_ : SdS X 116 [(0, 14), (1, 0), (2, 0), (3, 0), (4, 0)] [0, 0, 0, 16, 14] _)
      refine su_goto (tgt := 120) hC dX4_goodKind_116 rfl (?_ : SdS X 120 [(0, 14), (1, 0), (2, 0), (3, 0), (4, 0)] [0, 0, 0, 16, 14] _)
      exact SdS.weak (by decide) (S_120)
  have S_86 : SdS X 86 [(0, 14), (1, 0), (2, 0), (3, 0), (4, 0)] [0, 0, 0, 16, 14] (B_X4_goodKind_86 Q) := by
    unfold B_X4_goodKind_86
    refine su_inv0v (τ := []) (τr := [16, 0, 0, 0]) (ci := 4) (q := (RX4, TX4, 15)) hC WG (M_X4_shape _) rfl rfl rfl rfl  rfl rfl wl_3_92 wl_3_94 wp_20 wl_1_4 wl_3_95 hd_X4_shape (by rw [e3]; decide) (by decide) dX4_goodKind_86 (?_ : SdS X 89 [(0, 14), (1, 0), (2, 0), (3, 0), (4, 0)] [] _)
    refine su_aload_n hC 14 dX4_goodKind_89 rfl (by decide) (by decide) (?_ : SdS X 90 [(0, 14), (1, 0), (2, 0), (3, 0), (4, 0)] [14] _)
    refine su_aload_n hC 14 dX4_goodKind_90 rfl (by decide) (by decide) (?_ : SdS X 91 [(0, 14), (1, 0), (2, 0), (3, 0), (4, 0)] [14, 14] _)
    refine su_getR hC (ci := 4) (j := 10) (C := RX4) (T := TX4) (N := 15) rfl rfl (by decide) in_X4 wl_1_163 rfl dX4_goodKind_91 (?_ : SdS X 94 [(0, 14), (1, 0), (2, 0), (3, 0), (4, 0)] [11, 14] _)
    refine su_getR hC (ci := 1) (j := 11) (C := RX1) (T := TX1) (N := 12) rfl rfl (by decide) in_X1 wl_1_120 rfl dX4_goodKind_94 (?_ : SdS X 97 [(0, 14), (1, 0), (2, 0), (3, 0), (4, 0)] [116, 14] _)
    refine su_iload_n hC dX4_goodKind_97 rfl (by decide) (?_ : SdS X 98 [(0, 14), (1, 0), (2, 0), (3, 0), (4, 0)] [0, 116, 14] _)
    refine su_aaload (e := 16) hC (List.mem_of_getElem? (i := 5) rfl) rfl rfl rfl dX4_goodKind_98 (?_ : SdS X 99 [(0, 14), (1, 0), (2, 0), (3, 0), (4, 0)] [16, 14] _)
    refine su_iload hC dX4_goodKind_99 (by decide) (?_ : SdS X 101 [(0, 14), (1, 0), (2, 0), (3, 0), (4, 0)] [0, 16, 14] _)
    refine su_if_eq (tgt := 108) hC dX4_goodKind_101 rfl (?_ : SdS X 108 [(0, 14), (1, 0), (2, 0), (3, 0), (4, 0)] [16, 14] _) (?_ : SdS X 104 [(0, 14), (1, 0), (2, 0), (3, 0), (4, 0)] [16, 14] _)
    · refine su_iload_n hC dX4_goodKind_108 rfl (by decide) (?_ : SdS X 109 [(0, 14), (1, 0), (2, 0), (3, 0), (4, 0)] [0, 16, 14] _)
      exact SdS.weak (by decide) (S_109)
    · refine su_iconst hC dX4_goodKind_104 ⟨by decide, by decide⟩ (?_ : SdS X 105 [(0, 14), (1, 0), (2, 0), (3, 0), (4, 0)] [0, 16, 14] _)
      refine su_goto (tgt := 109) hC dX4_goodKind_105 rfl (?_ : SdS X 109 [(0, 14), (1, 0), (2, 0), (3, 0), (4, 0)] [0, 16, 14] _)
      exact SdS.weak (by decide) (S_109)
  have S_64 : SdS X 64 [(0, 14), (1, 0), (2, 0), (3, 0), (4, 0)] [] (B_X4_goodKind_64 Q) := by
    unfold B_X4_goodKind_64
    refine su_aload_n hC 14 dX4_goodKind_64 rfl (by decide) (by decide) (?_ : SdS X 65 [(0, 14), (1, 0), (2, 0), (3, 0), (4, 0)] [14] _)
    refine su_aload_n hC 14 dX4_goodKind_65 rfl (by decide) (by decide) (?_ : SdS X 66 [(0, 14), (1, 0), (2, 0), (3, 0), (4, 0)] [14, 14] _)
    refine su_getR hC (ci := 4) (j := 10) (C := RX4) (T := TX4) (N := 15) rfl rfl (by decide) in_X4 wl_1_163 rfl dX4_goodKind_66 (?_ : SdS X 69 [(0, 14), (1, 0), (2, 0), (3, 0), (4, 0)] [11, 14] _)
    refine su_getR hC (ci := 1) (j := 10) (C := RX1) (T := TX1) (N := 12) rfl rfl (by decide) in_X1 wl_1_118 rfl dX4_goodKind_69 (?_ : SdS X 72 [(0, 14), (1, 0), (2, 0), (3, 0), (4, 0)] [116, 14] _)
    refine su_iload_n hC dX4_goodKind_72 rfl (by decide) (?_ : SdS X 73 [(0, 14), (1, 0), (2, 0), (3, 0), (4, 0)] [0, 116, 14] _)
    refine su_aaload (e := 16) hC (List.mem_of_getElem? (i := 5) rfl) rfl rfl rfl dX4_goodKind_73 (?_ : SdS X 74 [(0, 14), (1, 0), (2, 0), (3, 0), (4, 0)] [16, 14] _)
    refine su_iconst hC dX4_goodKind_74 ⟨by decide, by decide⟩ (?_ : SdS X 75 [(0, 14), (1, 0), (2, 0), (3, 0), (4, 0)] [0, 16, 14] _)
    refine su_iload_n hC dX4_goodKind_75 rfl (by decide) (?_ : SdS X 76 [(0, 14), (1, 0), (2, 0), (3, 0), (4, 0)] [0, 0, 16, 14] _)
    refine su_iload hC dX4_goodKind_76 (by decide) (?_ : SdS X 78 [(0, 14), (1, 0), (2, 0), (3, 0), (4, 0)] [0, 0, 0, 16, 14] _)
    refine su_if_ne (tgt := 85) hC dX4_goodKind_78 rfl (?_ : SdS X 85 [(0, 14), (1, 0), (2, 0), (3, 0), (4, 0)] [0, 0, 16, 14] _) (?_ : SdS X 81 [(0, 14), (1, 0), (2, 0), (3, 0), (4, 0)] [0, 0, 16, 14] _)
    · refine su_iconst hC dX4_goodKind_85 ⟨by decide, by decide⟩ (?_ : SdS X 86 [(0, 14), (1, 0), (2, 0), (3, 0), (4, 0)] [0, 0, 0, 16, 14] _)
      exact SdS.weak (by decide) (S_86)
    · refine su_iconst hC dX4_goodKind_81 ⟨by decide, by decide⟩ (?_ : SdS X 82 [(0, 14), (1, 0), (2, 0), (3, 0), (4, 0)] [0, 0, 0, 16, 14] _)
      refine su_goto (tgt := 86) hC dX4_goodKind_82 rfl (?_ : SdS X 86 [(0, 14), (1, 0), (2, 0), (3, 0), (4, 0)] [0, 0, 0, 16, 14] _)
      exact SdS.weak (by decide) (S_86)
  have S_47 : SdS X 47 [(0, 14), (1, 0), (2, 0), (3, 0)] [] (B_X4_goodKind_47 Q) := by
    unfold B_X4_goodKind_47
    refine su_aload_n hC 14 dX4_goodKind_47 rfl (by decide) (by decide) (?_ : SdS X 48 [(0, 14), (1, 0), (2, 0), (3, 0)] [14] _)
    refine su_ldcS hC (tx0 := "holy") (i := 8) rfl (by decide) (by decide) dX4_goodKind_48 (?_ : SdS X 50 [(0, 14), (1, 0), (2, 0), (3, 0)] [5, 14] _)
    refine su_inv0 (τ := []) (τr := [5]) (ci := 4) (q := (RX4, TX4, 15)) hC WG (M_X4_isWord _) rfl rfl rfl rfl  rfl rfl wl_2_201 wl_2_203 wp_4 wl_1_4 wl_2_204 hd_X4_isWord (by rw [e3]; decide) (by decide) dX4_goodKind_50 (?_ : SdS X 53 [(0, 14), (1, 0), (2, 0), (3, 0)] [0] _)
    refine su_istore (Γ' := [(0, 14), (1, 0), (2, 0), (3, 0), (4, 0)]) hC dX4_goodKind_53 (by rw [e2]; decide) (by decide) (?_ : SdS X 55 [(0, 14), (1, 0), (2, 0), (3, 0), (4, 0)] [] _)
    refine su_iload hC dX4_goodKind_55 (by decide) (?_ : SdS X 57 [(0, 14), (1, 0), (2, 0), (3, 0), (4, 0)] [0] _)
    refine su_if_eq (tgt := 64) hC dX4_goodKind_57 rfl (?_ : SdS X 64 [(0, 14), (1, 0), (2, 0), (3, 0), (4, 0)] [] _) (?_ : SdS X 60 [(0, 14), (1, 0), (2, 0), (3, 0), (4, 0)] [] _)
    · exact SdS.weak (by decide) (S_64)
    · refine su_aload_n hC 14 dX4_goodKind_60 rfl (by decide) (by decide) (?_ : SdS X 61 [(0, 14), (1, 0), (2, 0), (3, 0), (4, 0)] [14] _)
      refine su_inv0v (τ := []) (τr := []) (ci := 4) (q := (RX4, TX4, 15)) hC WG (M_X4_step _) rfl rfl rfl rfl  rfl rfl wl_2_190 wl_2_192 wp_2 wl_1_4 wl_2_193 hd_X4_step (by rw [e3]; decide) (by decide) dX4_goodKind_61 (?_ : SdS X 64 [(0, 14), (1, 0), (2, 0), (3, 0), (4, 0)] [] _)
      exact SdS.weak (by decide) (S_64)
  have S_32 : SdS X 32 [(0, 14), (1, 0), (2, 0)] [] (B_X4_goodKind_32 Q) := by
    unfold B_X4_goodKind_32
    refine su_aload_n hC 14 dX4_goodKind_32 rfl (by decide) (by decide) (?_ : SdS X 33 [(0, 14), (1, 0), (2, 0)] [14] _)
    refine su_ldcS hC (tx0 := "tilts") (i := 7) rfl (by decide) (by decide) dX4_goodKind_33 (?_ : SdS X 35 [(0, 14), (1, 0), (2, 0)] [5, 14] _)
    refine su_inv0 (τ := []) (τr := [5]) (ci := 4) (q := (RX4, TX4, 15)) hC WG (M_X4_isWord _) rfl rfl rfl rfl  rfl rfl wl_2_201 wl_2_203 wp_4 wl_1_4 wl_2_204 hd_X4_isWord (by rw [e3]; decide) (by decide) dX4_goodKind_35 (?_ : SdS X 38 [(0, 14), (1, 0), (2, 0)] [0] _)
    refine su_istore_n (Γ' := [(0, 14), (1, 0), (2, 0), (3, 0)]) hC dX4_goodKind_38 rfl (by rw [e2]; decide) (by decide) (?_ : SdS X 39 [(0, 14), (1, 0), (2, 0), (3, 0)] [] _)
    refine su_iload_n hC dX4_goodKind_39 rfl (by decide) (?_ : SdS X 40 [(0, 14), (1, 0), (2, 0), (3, 0)] [0] _)
    refine su_if_eq (tgt := 47) hC dX4_goodKind_40 rfl (?_ : SdS X 47 [(0, 14), (1, 0), (2, 0), (3, 0)] [] _) (?_ : SdS X 43 [(0, 14), (1, 0), (2, 0), (3, 0)] [] _)
    · exact SdS.weak (by decide) (S_47)
    · refine su_aload_n hC 14 dX4_goodKind_43 rfl (by decide) (by decide) (?_ : SdS X 44 [(0, 14), (1, 0), (2, 0), (3, 0)] [14] _)
      refine su_inv0v (τ := []) (τr := []) (ci := 4) (q := (RX4, TX4, 15)) hC WG (M_X4_step _) rfl rfl rfl rfl  rfl rfl wl_2_190 wl_2_192 wp_2 wl_1_4 wl_2_193 hd_X4_step (by rw [e3]; decide) (by decide) dX4_goodKind_44 (?_ : SdS X 47 [(0, 14), (1, 0), (2, 0), (3, 0)] [] _)
      exact SdS.weak (by decide) (S_47)
  refine (?_ : SdS X 0 [(0, 14), (1, 0)] [] (E_X4_goodKind Q))
  unfold E_X4_goodKind
  refine su_iconst hC dX4_goodKind_0 ⟨by decide, by decide⟩ (?_ : SdS X 1 [(0, 14), (1, 0)] [0] _)
  refine su_istore_n (Γ' := [(0, 14), (1, 0), (2, 0)]) hC dX4_goodKind_1 rfl (by rw [e2]; decide) (by decide) (?_ : SdS X 2 [(0, 14), (1, 0), (2, 0)] [] _)
  refine su_aload_n hC 14 dX4_goodKind_2 rfl (by decide) (by decide) (?_ : SdS X 3 [(0, 14), (1, 0), (2, 0)] [14] _)
  refine su_ldcS hC (tx0 := "parts") (i := 6) rfl (by decide) (by decide) dX4_goodKind_3 (?_ : SdS X 5 [(0, 14), (1, 0), (2, 0)] [5, 14] _)
  refine su_inv0 (τ := []) (τr := [5]) (ci := 4) (q := (RX4, TX4, 15)) hC WG (M_X4_isWord _) rfl rfl rfl rfl  rfl rfl wl_2_201 wl_2_203 wp_4 wl_1_4 wl_2_204 hd_X4_isWord (by rw [e3]; decide) (by decide) dX4_goodKind_5 (?_ : SdS X 8 [(0, 14), (1, 0), (2, 0)] [0] _)
  refine su_if_eq (tgt := 32) hC dX4_goodKind_8 rfl (?_ : SdS X 32 [(0, 14), (1, 0), (2, 0)] [] _) (?_ : SdS X 11 [(0, 14), (1, 0), (2, 0)] [] _)
  · exact SdS.weak (by decide) (S_32)
  · refine su_aload_n hC 14 dX4_goodKind_11 rfl (by decide) (by decide) (?_ : SdS X 12 [(0, 14), (1, 0), (2, 0)] [14] _)
    refine su_inv0v (τ := []) (τr := []) (ci := 4) (q := (RX4, TX4, 15)) hC WG (M_X4_step _) rfl rfl rfl rfl  rfl rfl wl_2_190 wl_2_192 wp_2 wl_1_4 wl_2_193 hd_X4_step (by rw [e3]; decide) (by decide) dX4_goodKind_12 (?_ : SdS X 15 [(0, 14), (1, 0), (2, 0)] [] _)
    refine su_aload_n hC 14 dX4_goodKind_15 rfl (by decide) (by decide) (?_ : SdS X 16 [(0, 14), (1, 0), (2, 0)] [14] _)
    refine su_iconst hC dX4_goodKind_16 ⟨by decide, by decide⟩ (?_ : SdS X 17 [(0, 14), (1, 0), (2, 0)] [0, 14] _)
    refine su_bipush hC dX4_goodKind_17 (by decide) (?_ : SdS X 19 [(0, 14), (1, 0), (2, 0)] [0, 0, 14] _)
    refine su_inv0 (τ := []) (τr := [0, 0]) (ci := 4) (q := (RX4, TX4, 15)) hC WG (M_X4_needWhole _) rfl rfl rfl rfl  rfl rfl wl_3_21 wl_3_23 wp_7 wl_1_4 wl_3_24 hd_X4_needWhole (by rw [e3]; decide) (by decide) dX4_goodKind_19 (?_ : SdS X 22 [(0, 14), (1, 0), (2, 0)] [0] _)
    refine su_if_ne (tgt := 27) hC dX4_goodKind_22 rfl (?_ : SdS X 27 [(0, 14), (1, 0), (2, 0)] [] _) (?_ : SdS X 25 [(0, 14), (1, 0), (2, 0)] [] _)
    · refine su_aload_n hC 14 dX4_goodKind_27 rfl (by decide) (by decide) (?_ : SdS X 28 [(0, 14), (1, 0), (2, 0)] [14] _)
      refine su_getF hC (ci := 4) (j := 8) (C := RX4) (T := TX4) (N := 15) rfl rfl (by decide) in_X4 wl_1_161 rfl dX4_goodKind_28 (?_ : SdS X 31 [(0, 14), (1, 0), (2, 0)] [0] _)
      refine su_istore_n (Γ' := [(0, 14), (1, 0), (2, 0)]) hC dX4_goodKind_31 rfl (by rw [e2]; decide) (by decide) (?_ : SdS X 32 [(0, 14), (1, 0), (2, 0)] [] _)
      exact SdS.weak (by decide) (S_32)
    · refine su_iconst hC dX4_goodKind_25 ⟨by decide, by decide⟩ (?_ : SdS X 26 [(0, 14), (1, 0), (2, 0)] [0] _)
      exact su_zreturn hC hT dX4_goodKind_26
theorem wl_1_93 : Cond.fieldLink RX4 195 "NarrowRings$City" "goods" "I" ∈ WALL := tb1 (List.mem_of_getElem? (i := 93) rfl) rfl
theorem wl_3_88 : Cond.methodLink RX4 202 yX4_goodKind ∈ WALL := tb3 (List.mem_of_getElem? (i := 88) rfl) rfl
theorem wl_3_90 : Cond.instanceMethod yX4_goodKind ∈ WALL := tb3 (List.mem_of_getElem? (i := 90) rfl) rfl
theorem wp_19 : Cond.selects RX4 yX4_goodKind yX4_goodKind ∈ WALL := tbS (List.mem_of_getElem? (i := 19) rfl)
theorem wl_3_91 : Cond.code yX4_goodKind cX4_goodKind 5 (some .boolean) ∈ WALL := tb3 (List.mem_of_getElem? (i := 91) rfl) rfl
theorem hd_X4_goodLine : yX4_goodLine.cls ≠ "java/lang/invoke/MethodHandle" ∧ yX4_goodLine.cls ≠ "java/lang/invoke/VarHandle" ∧ (parseMethodDescriptor yX4_goodLine.desc).map (fun d => d.parameters.length) = some 0 := by decide +kernel
set_option maxRecDepth 100000 in
set_option maxHeartbeats 4000000 in
theorem M_X4_goodLine (l : Launch) : MtS l yX4_goodLine (Cond.code yX4_goodLine cX4_goodLine 3 (some .boolean) :: WALL) { frames := 7, cells := 0, slots := 0, locals := 153 } [14] (some 0) T_X4_goodLine := by
  refine MtS.mk (B := E_X4_goodLine) (by decide +kernel) (by decide) (fun _ _ _ hh => hh) ?_
  intro X Q e1 e2 e3 hC hN hT
  subst e1
  have hC : CF X cX4_goodLine RX4 WALL := hC
  have S_140 : SdS X 140 [(0, 14), (1, 0), (2, 0)] [0] (B_X4_goodLine_140 Q) := by
    unfold B_X4_goodLine_140
    exact su_zreturn hC hT dX4_goodLine_140
  have S_139 : SdS X 139 [(0, 14), (1, 0), (2, 0)] [] (B_X4_goodLine_139 Q) := by
    unfold B_X4_goodLine_139
    refine su_iconst hC dX4_goodLine_139 ⟨by decide, by decide⟩ (?_ : SdS X 140 [(0, 14), (1, 0), (2, 0)] [0] _)
    exact SdS.weak (by decide) (S_140)
  have S_122 : SdS X 122 [(0, 14), (1, 0)] [0] (B_X4_goodLine_122 Q) := by
    unfold B_X4_goodLine_122
    refine su_istore_n (Γ' := [(0, 14), (1, 0), (2, 0)]) hC dX4_goodLine_122 rfl (by rw [e2]; decide) (by decide) (?_ : SdS X 123 [(0, 14), (1, 0), (2, 0)] [] _)
    refine su_iload_n hC dX4_goodLine_123 rfl (by decide) (?_ : SdS X 124 [(0, 14), (1, 0), (2, 0)] [0] _)
    refine su_if_eq (tgt := 139) hC dX4_goodLine_124 rfl (?_ : SdS X 139 [(0, 14), (1, 0), (2, 0)] [] _) (?_ : SdS X 127 [(0, 14), (1, 0), (2, 0)] [] _)
    · exact SdS.weak (by decide) (S_139)
    · refine su_aload_n hC 14 dX4_goodLine_127 rfl (by decide) (by decide) (?_ : SdS X 128 [(0, 14), (1, 0), (2, 0)] [14] _)
      refine su_iload_n hC dX4_goodLine_128 rfl (by decide) (?_ : SdS X 129 [(0, 14), (1, 0), (2, 0)] [0, 14] _)
      refine su_inv0 (τ := []) (τr := [0]) (ci := 4) (q := (RX4, TX4, 15)) hC WG (M_X4_goodKind _) rfl rfl rfl rfl  rfl rfl wl_3_88 wl_3_90 wp_19 wl_1_4 wl_3_91 hd_X4_goodKind (by rw [e3]; decide) (by decide) dX4_goodLine_129 (?_ : SdS X 132 [(0, 14), (1, 0), (2, 0)] [0] _)
      refine su_if_eq (tgt := 139) hC dX4_goodLine_132 rfl (?_ : SdS X 139 [(0, 14), (1, 0), (2, 0)] [] _) (?_ : SdS X 135 [(0, 14), (1, 0), (2, 0)] [] _)
      · exact SdS.weak (by decide) (S_139)
      · refine su_iconst hC dX4_goodLine_135 ⟨by decide, by decide⟩ (?_ : SdS X 136 [(0, 14), (1, 0), (2, 0)] [0] _)
        refine su_goto (tgt := 140) hC dX4_goodLine_136 rfl (?_ : SdS X 140 [(0, 14), (1, 0), (2, 0)] [0] _)
        exact SdS.weak (by decide) (S_140)
  have S_121 : SdS X 121 [(0, 14), (1, 0)] [] (B_X4_goodLine_121 Q) := by
    unfold B_X4_goodLine_121
    refine su_iconst hC dX4_goodLine_121 ⟨by decide, by decide⟩ (?_ : SdS X 122 [(0, 14), (1, 0)] [0] _)
    exact SdS.weak (by decide) (S_122)
  refine (?_ : SdS X 0 [(0, 14)] [] (E_X4_goodLine Q))
  unfold E_X4_goodLine
  refine su_aload_n hC 14 dX4_goodLine_0 rfl (by decide) (by decide) (?_ : SdS X 1 [(0, 14)] [14] _)
  refine su_getR hC (ci := 4) (j := 10) (C := RX4) (T := TX4) (N := 15) rfl rfl (by decide) in_X4 wl_1_163 rfl dX4_goodLine_1 (?_ : SdS X 4 [(0, 14)] [11] _)
  refine su_getF hC (ci := 1) (j := 3) (C := RX1) (T := TX1) (N := 12) rfl rfl (by decide) in_X1 wl_1_93 rfl dX4_goodLine_4 (?_ : SdS X 7 [(0, 14)] [0] _)
  refine su_istore_n (Γ' := [(0, 14), (1, 0)]) hC dX4_goodLine_7 rfl (by rw [e2]; decide) (by decide) (?_ : SdS X 8 [(0, 14), (1, 0)] [] _)
  refine su_iload_n hC dX4_goodLine_8 rfl (by decide) (?_ : SdS X 9 [(0, 14), (1, 0)] [0] _)
  refine su_bipush hC dX4_goodLine_9 (by decide) (?_ : SdS X 11 [(0, 14), (1, 0)] [0, 0] _)
  refine su_icmp_lt (tgt := 24) hC dX4_goodLine_11 rfl (?_ : SdS X 24 [(0, 14), (1, 0)] [] _) (?_ : SdS X 14 [(0, 14), (1, 0)] [] _)
  · refine su_aload_n hC 14 dX4_goodLine_24 rfl (by decide) (by decide) (?_ : SdS X 25 [(0, 14), (1, 0)] [14] _)
    refine su_getR hC (ci := 4) (j := 10) (C := RX4) (T := TX4) (N := 15) rfl rfl (by decide) in_X4 wl_1_163 rfl dX4_goodLine_25 (?_ : SdS X 28 [(0, 14), (1, 0)] [11] _)
    refine su_dup hC (by decide) dX4_goodLine_28 (?_ : SdS X 29 [(0, 14), (1, 0)] [11, 11] _)
    refine su_getF hC (ci := 1) (j := 3) (C := RX1) (T := TX1) (N := 12) rfl rfl (by decide) in_X1 wl_1_93 rfl dX4_goodLine_29 (?_ : SdS X 32 [(0, 14), (1, 0)] [0, 11] _)
    refine su_iconst hC dX4_goodLine_32 ⟨by decide, by decide⟩ (?_ : SdS X 33 [(0, 14), (1, 0)] [0, 0, 11] _)
    refine su_iadd hC dX4_goodLine_33 (?_ : SdS X 34 [(0, 14), (1, 0)] [0, 11] _)
    refine su_putF hC (ci := 1) (j := 3) (C := RX1) (T := TX1) (N := 12) tyX1 tyX1_ok nmX1 rfl rfl (by decide) in_X1 rfl rfl wl_1_93 rfl dX4_goodLine_34 (?_ : SdS X 37 [(0, 14), (1, 0)] [] _)
    refine su_aload_n hC 14 dX4_goodLine_37 rfl (by decide) (by decide) (?_ : SdS X 38 [(0, 14), (1, 0)] [14] _)
    refine su_inv0v (τ := []) (τr := []) (ci := 4) (q := (RX4, TX4, 15)) hC WG (M_X4_step _) rfl rfl rfl rfl  rfl rfl wl_2_190 wl_2_192 wp_2 wl_1_4 wl_2_193 hd_X4_step (by rw [e3]; decide) (by decide) dX4_goodLine_38 (?_ : SdS X 41 [(0, 14), (1, 0)] [] _)
    refine su_aload_n hC 14 dX4_goodLine_41 rfl (by decide) (by decide) (?_ : SdS X 42 [(0, 14), (1, 0)] [14] _)
    refine su_iload_n hC dX4_goodLine_42 rfl (by decide) (?_ : SdS X 43 [(0, 14), (1, 0)] [0, 14] _)
    refine su_inv0 (τ := []) (τr := [0]) (ci := 4) (q := (RX4, TX4, 15)) hC WG (M_X4_needNewName _) rfl rfl rfl rfl  rfl rfl wl_3_34 wl_3_36 wp_10 wl_1_4 wl_3_37 hd_X4_needNewName (by rw [e3]; decide) (by decide) dX4_goodLine_43 (?_ : SdS X 46 [(0, 14), (1, 0)] [0] _)
    refine su_if_eq (tgt := 121) hC dX4_goodLine_46 rfl (?_ : SdS X 121 [(0, 14), (1, 0)] [] _) (?_ : SdS X 49 [(0, 14), (1, 0)] [] _)
    · exact SdS.weak (by decide) (S_121)
    · refine su_aload_n hC 14 dX4_goodLine_49 rfl (by decide) (by decide) (?_ : SdS X 50 [(0, 14), (1, 0)] [14] _)
      refine su_ldcS hC (tx0 := "long") (i := 18) rfl (by decide) (by decide) dX4_goodLine_50 (?_ : SdS X 52 [(0, 14), (1, 0)] [5, 14] _)
      refine su_iconst hC dX4_goodLine_52 ⟨by decide, by decide⟩ (?_ : SdS X 53 [(0, 14), (1, 0)] [0, 5, 14] _)
      refine su_bipush hC dX4_goodLine_53 (by decide) (?_ : SdS X 55 [(0, 14), (1, 0)] [0, 0, 5, 14] _)
      refine su_aload_n hC 14 dX4_goodLine_55 rfl (by decide) (by decide) (?_ : SdS X 56 [(0, 14), (1, 0)] [14, 0, 0, 5, 14] _)
      refine su_getR hC (ci := 4) (j := 14) (C := RX4) (T := TX4) (N := 15) rfl rfl (by decide) in_X4 wl_1_167 rfl dX4_goodLine_56 (?_ : SdS X 59 [(0, 14), (1, 0)] [100, 0, 0, 5, 14] _)
      refine su_iconst hC dX4_goodLine_59 ⟨by decide, by decide⟩ (?_ : SdS X 60 [(0, 14), (1, 0)] [0, 100, 0, 0, 5, 14] _)
      refine su_inv0 (τ := []) (τr := [5, 0, 0, 100, 0]) (ci := 4) (q := (RX4, TX4, 15)) hC WG (M_X4_needSaid _) rfl rfl rfl rfl  rfl rfl wl_3_54 wl_3_56 wp_13 wl_1_4 wl_3_57 hd_X4_needSaid (by rw [e3]; decide) (by decide) dX4_goodLine_60 (?_ : SdS X 63 [(0, 14), (1, 0)] [0] _)
      refine su_if_eq (tgt := 121) hC dX4_goodLine_63 rfl (?_ : SdS X 121 [(0, 14), (1, 0)] [] _) (?_ : SdS X 66 [(0, 14), (1, 0)] [] _)
      · exact SdS.weak (by decide) (S_121)
      · refine su_aload_n hC 14 dX4_goodLine_66 rfl (by decide) (by decide) (?_ : SdS X 67 [(0, 14), (1, 0)] [14] _)
        refine su_ldcS hC (tx0 := "wide") (i := 11) rfl (by decide) (by decide) dX4_goodLine_67 (?_ : SdS X 69 [(0, 14), (1, 0)] [5, 14] _)
        refine su_iconst hC dX4_goodLine_69 ⟨by decide, by decide⟩ (?_ : SdS X 70 [(0, 14), (1, 0)] [0, 5, 14] _)
        refine su_bipush hC dX4_goodLine_70 (by decide) (?_ : SdS X 72 [(0, 14), (1, 0)] [0, 0, 5, 14] _)
        refine su_aload_n hC 14 dX4_goodLine_72 rfl (by decide) (by decide) (?_ : SdS X 73 [(0, 14), (1, 0)] [14, 0, 0, 5, 14] _)
        refine su_getR hC (ci := 4) (j := 14) (C := RX4) (T := TX4) (N := 15) rfl rfl (by decide) in_X4 wl_1_167 rfl dX4_goodLine_73 (?_ : SdS X 76 [(0, 14), (1, 0)] [100, 0, 0, 5, 14] _)
        refine su_iconst hC dX4_goodLine_76 ⟨by decide, by decide⟩ (?_ : SdS X 77 [(0, 14), (1, 0)] [0, 100, 0, 0, 5, 14] _)
        refine su_inv0 (τ := []) (τr := [5, 0, 0, 100, 0]) (ci := 4) (q := (RX4, TX4, 15)) hC WG (M_X4_needSaid _) rfl rfl rfl rfl  rfl rfl wl_3_54 wl_3_56 wp_13 wl_1_4 wl_3_57 hd_X4_needSaid (by rw [e3]; decide) (by decide) dX4_goodLine_77 (?_ : SdS X 80 [(0, 14), (1, 0)] [0] _)
        refine su_if_eq (tgt := 121) hC dX4_goodLine_80 rfl (?_ : SdS X 121 [(0, 14), (1, 0)] [] _) (?_ : SdS X 83 [(0, 14), (1, 0)] [] _)
        · exact SdS.weak (by decide) (S_121)
        · refine su_aload_n hC 14 dX4_goodLine_83 rfl (by decide) (by decide) (?_ : SdS X 84 [(0, 14), (1, 0)] [14] _)
          refine su_ldcS hC (tx0 := "high") (i := 12) rfl (by decide) (by decide) dX4_goodLine_84 (?_ : SdS X 86 [(0, 14), (1, 0)] [5, 14] _)
          refine su_iconst hC dX4_goodLine_86 ⟨by decide, by decide⟩ (?_ : SdS X 87 [(0, 14), (1, 0)] [0, 5, 14] _)
          refine su_bipush hC dX4_goodLine_87 (by decide) (?_ : SdS X 89 [(0, 14), (1, 0)] [0, 0, 5, 14] _)
          refine su_aload_n hC 14 dX4_goodLine_89 rfl (by decide) (by decide) (?_ : SdS X 90 [(0, 14), (1, 0)] [14, 0, 0, 5, 14] _)
          refine su_getR hC (ci := 4) (j := 14) (C := RX4) (T := TX4) (N := 15) rfl rfl (by decide) in_X4 wl_1_167 rfl dX4_goodLine_90 (?_ : SdS X 93 [(0, 14), (1, 0)] [100, 0, 0, 5, 14] _)
          refine su_iconst hC dX4_goodLine_93 ⟨by decide, by decide⟩ (?_ : SdS X 94 [(0, 14), (1, 0)] [0, 100, 0, 0, 5, 14] _)
          refine su_inv0 (τ := []) (τr := [5, 0, 0, 100, 0]) (ci := 4) (q := (RX4, TX4, 15)) hC WG (M_X4_needSaid _) rfl rfl rfl rfl  rfl rfl wl_3_54 wl_3_56 wp_13 wl_1_4 wl_3_57 hd_X4_needSaid (by rw [e3]; decide) (by decide) dX4_goodLine_94 (?_ : SdS X 97 [(0, 14), (1, 0)] [0] _)
          refine su_if_eq (tgt := 121) hC dX4_goodLine_97 rfl (?_ : SdS X 121 [(0, 14), (1, 0)] [] _) (?_ : SdS X 100 [(0, 14), (1, 0)] [] _)
          · exact SdS.weak (by decide) (S_121)
          · refine su_aload_n hC 14 dX4_goodLine_100 rfl (by decide) (by decide) (?_ : SdS X 101 [(0, 14), (1, 0)] [14] _)
            refine su_ldcS hC (tx0 := "weighs") (i := 19) rfl (by decide) (by decide) dX4_goodLine_101 (?_ : SdS X 103 [(0, 14), (1, 0)] [5, 14] _)
            refine su_iconst hC dX4_goodLine_103 ⟨by decide, by decide⟩ (?_ : SdS X 104 [(0, 14), (1, 0)] [0, 5, 14] _)
            refine su_bipush hC dX4_goodLine_104 (by decide) (?_ : SdS X 106 [(0, 14), (1, 0)] [0, 0, 5, 14] _)
            refine su_aload_n hC 14 dX4_goodLine_106 rfl (by decide) (by decide) (?_ : SdS X 107 [(0, 14), (1, 0)] [14, 0, 0, 5, 14] _)
            refine su_getR hC (ci := 4) (j := 14) (C := RX4) (T := TX4) (N := 15) rfl rfl (by decide) in_X4 wl_1_167 rfl dX4_goodLine_107 (?_ : SdS X 110 [(0, 14), (1, 0)] [100, 0, 0, 5, 14] _)
            refine su_iconst hC dX4_goodLine_110 ⟨by decide, by decide⟩ (?_ : SdS X 111 [(0, 14), (1, 0)] [0, 100, 0, 0, 5, 14] _)
            refine su_inv0 (τ := []) (τr := [5, 0, 0, 100, 0]) (ci := 4) (q := (RX4, TX4, 15)) hC WG (M_X4_needSaid _) rfl rfl rfl rfl  rfl rfl wl_3_54 wl_3_56 wp_13 wl_1_4 wl_3_57 hd_X4_needSaid (by rw [e3]; decide) (by decide) dX4_goodLine_111 (?_ : SdS X 114 [(0, 14), (1, 0)] [0] _)
            refine su_if_eq (tgt := 121) hC dX4_goodLine_114 rfl (?_ : SdS X 121 [(0, 14), (1, 0)] [] _) (?_ : SdS X 117 [(0, 14), (1, 0)] [] _)
            · exact SdS.weak (by decide) (S_121)
            · refine su_iconst hC dX4_goodLine_117 ⟨by decide, by decide⟩ (?_ : SdS X 118 [(0, 14), (1, 0)] [0] _)
              refine su_goto (tgt := 122) hC dX4_goodLine_118 rfl (?_ : SdS X 122 [(0, 14), (1, 0)] [0] _)
              exact SdS.weak (by decide) (S_122)
  · refine su_aload_n hC 14 dX4_goodLine_14 rfl (by decide) (by decide) (?_ : SdS X 15 [(0, 14), (1, 0)] [14] _)
    refine su_iconst hC dX4_goodLine_15 ⟨by decide, by decide⟩ (?_ : SdS X 16 [(0, 14), (1, 0)] [0, 14] _)
    refine su_aload_n hC 14 dX4_goodLine_16 rfl (by decide) (by decide) (?_ : SdS X 17 [(0, 14), (1, 0)] [14, 0, 14] _)
    refine su_getF hC (ci := 4) (j := 3) (C := RX4) (T := TX4) (N := 15) rfl rfl (by decide) in_X4 wl_1_156 rfl dX4_goodLine_17 (?_ : SdS X 20 [(0, 14), (1, 0)] [0, 0, 14] _)
    refine su_inv0 (τ := []) (τr := [0, 0]) (ci := 4) (q := (RX4, TX4, 15)) hC WG (M_X4_flaw _) rfl rfl rfl rfl  rfl rfl wl_3_17 wl_3_19 wp_6 wl_1_4 wl_3_20 hd_X4_flaw (by rw [e3]; decide) (by decide) dX4_goodLine_20 (?_ : SdS X 23 [(0, 14), (1, 0)] [0] _)
    exact su_zreturn hC hT dX4_goodLine_23
theorem wl_1_151 : Cond.methodLink RX4 5 Lib.objectInit ∈ WALL := tb1 (List.mem_of_getElem? (i := 151) rfl) rfl
theorem hd_X4_init : yX4_init.cls ≠ "java/lang/invoke/MethodHandle" ∧ yX4_init.cls ≠ "java/lang/invoke/VarHandle" ∧ (parseMethodDescriptor yX4_init.desc).map (fun d => d.parameters.length) = some 2 := by decide +kernel
set_option maxRecDepth 100000 in
set_option maxHeartbeats 4000000 in
theorem M_X4_init (l : Launch) : MtS l yX4_init (Cond.code yX4_init cX4_init 3 none :: WALL) { frames := 1, cells := 3, slots := 74, locals := 20 } [14, 100, 11] none T_X4_init := by
  refine MtS.mk (B := E_X4_init) (by decide +kernel) (by decide) (fun _ _ _ hh => hh) ?_
  intro X Q e1 e2 e3 hC hN hT
  subst e1
  have hC : CF X cX4_init RX4 WALL := hC
  refine (?_ : SdS X 0 [(0, 14), (1, 100), (2, 11)] [] (E_X4_init Q))
  unfold E_X4_init
  refine su_aload_n hC 14 dX4_init_0 rfl (by decide) (by decide) (?_ : SdS X 1 [(0, 14), (1, 100), (2, 11)] [14] _)
  refine su_objInit hC (by decide) wl_1_151 wl_1_29 wl_1_30 (by rw [e3]; decide) (by decide) dX4_init_1 (?_ : SdS X 4 [(0, 14), (1, 100), (2, 11)] [] _)
  refine su_aload_n hC 14 dX4_init_4 rfl (by decide) (by decide) (?_ : SdS X 5 [(0, 14), (1, 100), (2, 11)] [14] _)
  refine su_aload_n hC 100 dX4_init_5 rfl (by decide) (by decide) (?_ : SdS X 6 [(0, 14), (1, 100), (2, 11)] [100, 14] _)
  refine su_putRF hC (ci := 4) (j := 1) (C := RX4) (T := TX4) (N := 15) tyX4 tyX4_ok nmX4 rfl rfl (by decide) in_X4 rfl rfl rfl hN wl_1_154 rfl dX4_init_6 (?_ : SdS X 9 [(0, 14), (1, 100), (2, 11)] [] _)
  refine su_aload_n hC 14 dX4_init_9 rfl (by decide) (by decide) (?_ : SdS X 10 [(0, 14), (1, 100), (2, 11)] [14] _)
  refine su_aload_n hC 11 dX4_init_10 rfl (by decide) (by decide) (?_ : SdS X 11 [(0, 14), (1, 100), (2, 11)] [11, 14] _)
  refine su_putR hC (ci := 4) (j := 10) (C := RX4) (T := TX4) (N := 15) tyX4 tyX4_ok nmX4 rfl rfl (by decide) in_X4 rfl rfl wl_1_163 rfl dX4_init_11 (?_ : SdS X 14 [(0, 14), (1, 100), (2, 11)] [] _)
  refine su_aload_n hC 14 dX4_init_14 rfl (by decide) (by decide) (?_ : SdS X 15 [(0, 14), (1, 100), (2, 11)] [14] _)
  refine su_bipush hC dX4_init_15 (by decide) (?_ : SdS X 17 [(0, 14), (1, 100), (2, 11)] [0, 14] _)
  refine su_newa hC (atype := .long) (e := 1) (List.mem_of_getElem? (i := 1) rfl) (fun C z => by cases z) rfl (by decide) wl_1_199 (by rw [e3]) (by rw [e3]) dX4_init_17 (?_ : SdS X 19 [(0, 14), (1, 100), (2, 11)] [101, 14] _)
  refine su_putRF hC (ci := 4) (j := 11) (C := RX4) (T := TX4) (N := 15) tyX4 tyX4_ok nmX4 rfl rfl (by decide) in_X4 rfl rfl rfl hN wl_1_164 rfl dX4_init_19 (?_ : SdS X 22 [(0, 14), (1, 100), (2, 11)] [] _)
  refine su_aload_n hC 14 dX4_init_22 rfl (by decide) (by decide) (?_ : SdS X 23 [(0, 14), (1, 100), (2, 11)] [14] _)
  refine su_bipush hC dX4_init_23 (by decide) (?_ : SdS X 25 [(0, 14), (1, 100), (2, 11)] [0, 14] _)
  refine su_newa hC (atype := .int) (e := 0) (List.mem_of_getElem? (i := 0) rfl) (fun C z => by cases z) rfl (by decide) wl_1_76 (by rw [e3]) (by rw [e3]) dX4_init_25 (?_ : SdS X 27 [(0, 14), (1, 100), (2, 11)] [100, 14] _)
  refine su_putRF hC (ci := 4) (j := 12) (C := RX4) (T := TX4) (N := 15) tyX4 tyX4_ok nmX4 rfl rfl (by decide) in_X4 rfl rfl rfl hN wl_1_165 rfl dX4_init_27 (?_ : SdS X 30 [(0, 14), (1, 100), (2, 11)] [] _)
  refine su_aload_n hC 14 dX4_init_30 rfl (by decide) (by decide) (?_ : SdS X 31 [(0, 14), (1, 100), (2, 11)] [14] _)
  refine su_iconst hC dX4_init_31 ⟨by decide, by decide⟩ (?_ : SdS X 32 [(0, 14), (1, 100), (2, 11)] [0, 14] _)
  refine su_newa hC (atype := .int) (e := 0) (List.mem_of_getElem? (i := 0) rfl) (fun C z => by cases z) rfl (by decide) wl_1_76 (by rw [e3]) (by rw [e3]) dX4_init_32 (?_ : SdS X 34 [(0, 14), (1, 100), (2, 11)] [100, 14] _)
  refine su_putRF hC (ci := 4) (j := 14) (C := RX4) (T := TX4) (N := 15) tyX4 tyX4_ok nmX4 rfl rfl (by decide) in_X4 rfl rfl rfl hN wl_1_167 rfl dX4_init_34 (?_ : SdS X 37 [(0, 14), (1, 100), (2, 11)] [] _)
  exact su_return hC hT dX4_init_37
theorem hd_X4_needComma : yX4_needComma.cls ≠ "java/lang/invoke/MethodHandle" ∧ yX4_needComma.cls ≠ "java/lang/invoke/VarHandle" ∧ (parseMethodDescriptor yX4_needComma.desc).map (fun d => d.parameters.length) = some 0 := by decide +kernel
set_option maxRecDepth 100000 in
set_option maxHeartbeats 4000000 in
theorem M_X4_needComma (l : Launch) : MtS l yX4_needComma (Cond.code yX4_needComma cX4_needComma 1 (some .boolean) :: WALL) { frames := 1, cells := 0, slots := 0, locals := 22 } [14] (some 0) T_X4_needComma := by
  refine MtS.mk (B := E_X4_needComma) (by decide +kernel) (by decide) (fun _ _ _ hh => hh) ?_
  intro X Q e1 e2 e3 hC hN hT
  subst e1
  have hC : CF X cX4_needComma RX4 WALL := hC
  refine (?_ : SdS X 0 [(0, 14)] [] (E_X4_needComma Q))
  unfold E_X4_needComma
  refine su_aload_n hC 14 dX4_needComma_0 rfl (by decide) (by decide) (?_ : SdS X 1 [(0, 14)] [14] _)
  refine su_getF hC (ci := 4) (j := 5) (C := RX4) (T := TX4) (N := 15) rfl rfl (by decide) in_X4 wl_1_158 rfl dX4_needComma_1 (?_ : SdS X 4 [(0, 14)] [0] _)
  refine su_iconst hC dX4_needComma_4 ⟨by decide, by decide⟩ (?_ : SdS X 5 [(0, 14)] [0, 0] _)
  refine su_icmp_eq (tgt := 18) hC dX4_needComma_5 rfl (?_ : SdS X 18 [(0, 14)] [] _) (?_ : SdS X 8 [(0, 14)] [] _)
  · refine su_aload_n hC 14 dX4_needComma_18 rfl (by decide) (by decide) (?_ : SdS X 19 [(0, 14)] [14] _)
    refine su_inv0v (τ := []) (τr := []) (ci := 4) (q := (RX4, TX4, 15)) hC WG (M_X4_step _) rfl rfl rfl rfl  rfl rfl wl_2_190 wl_2_192 wp_2 wl_1_4 wl_2_193 hd_X4_step (by rw [e3]; decide) (by decide) dX4_needComma_19 (?_ : SdS X 22 [(0, 14)] [] _)
    refine su_iconst hC dX4_needComma_22 ⟨by decide, by decide⟩ (?_ : SdS X 23 [(0, 14)] [0] _)
    exact su_zreturn hC hT dX4_needComma_23
  · refine su_aload_n hC 14 dX4_needComma_8 rfl (by decide) (by decide) (?_ : SdS X 9 [(0, 14)] [14] _)
    refine su_iconst hC dX4_needComma_9 ⟨by decide, by decide⟩ (?_ : SdS X 10 [(0, 14)] [0, 14] _)
    refine su_aload_n hC 14 dX4_needComma_10 rfl (by decide) (by decide) (?_ : SdS X 11 [(0, 14)] [14, 0, 14] _)
    refine su_getF hC (ci := 4) (j := 3) (C := RX4) (T := TX4) (N := 15) rfl rfl (by decide) in_X4 wl_1_156 rfl dX4_needComma_11 (?_ : SdS X 14 [(0, 14)] [0, 0, 14] _)
    refine su_inv0 (τ := []) (τr := [0, 0]) (ci := 4) (q := (RX4, TX4, 15)) hC WG (M_X4_flaw _) rfl rfl rfl rfl  rfl rfl wl_3_17 wl_3_19 wp_6 wl_1_4 wl_3_20 hd_X4_flaw (by rw [e3]; decide) (by decide) dX4_needComma_14 (?_ : SdS X 17 [(0, 14)] [0] _)
    exact su_zreturn hC hT dX4_needComma_17
theorem hd_X4_needGood : yX4_needGood.cls ≠ "java/lang/invoke/MethodHandle" ∧ yX4_needGood.cls ≠ "java/lang/invoke/VarHandle" ∧ (parseMethodDescriptor yX4_needGood.desc).map (fun d => d.parameters.length) = some 2 := by decide +kernel
set_option maxRecDepth 100000 in
set_option maxHeartbeats 4000000 in
theorem M_X4_needGood (l : Launch) : MtS l yX4_needGood (Cond.code yX4_needGood cX4_needGood 4 (some .boolean) :: WALL) { frames := 6, cells := 0, slots := 0, locals := 128 } [14, 100, 0] (some 0) T_X4_needGood := by
  refine MtS.mk (B := E_X4_needGood) (by decide +kernel) (by decide) (fun _ _ _ hh => hh) ?_
  intro X Q e1 e2 e3 hC hN hT
  subst e1
  have hC : CF X cX4_needGood RX4 WALL := hC
  have S_37 : SdS X 37 [(0, 14), (1, 100), (2, 0), (3, 0)] [] (B_X4_needGood_37 Q) := by
    unfold B_X4_needGood_37
    refine su_aload_n hC 14 dX4_needGood_37 rfl (by decide) (by decide) (?_ : SdS X 38 [(0, 14), (1, 100), (2, 0), (3, 0)] [14] _)
    refine su_iconst hC dX4_needGood_38 ⟨by decide, by decide⟩ (?_ : SdS X 39 [(0, 14), (1, 100), (2, 0), (3, 0)] [0, 14] _)
    refine su_aload_n hC 14 dX4_needGood_39 rfl (by decide) (by decide) (?_ : SdS X 40 [(0, 14), (1, 100), (2, 0), (3, 0)] [14, 0, 14] _)
    refine su_getF hC (ci := 4) (j := 3) (C := RX4) (T := TX4) (N := 15) rfl rfl (by decide) in_X4 wl_1_156 rfl dX4_needGood_40 (?_ : SdS X 43 [(0, 14), (1, 100), (2, 0), (3, 0)] [0, 0, 14] _)
    refine su_inv0 (τ := []) (τr := [0, 0]) (ci := 4) (q := (RX4, TX4, 15)) hC WG (M_X4_flaw _) rfl rfl rfl rfl  rfl rfl wl_3_17 wl_3_19 wp_6 wl_1_4 wl_3_20 hd_X4_flaw (by rw [e3]; decide) (by decide) dX4_needGood_43 (?_ : SdS X 46 [(0, 14), (1, 100), (2, 0), (3, 0)] [0] _)
    exact su_zreturn hC hT dX4_needGood_46
  refine (?_ : SdS X 0 [(0, 14), (1, 100), (2, 0)] [] (E_X4_needGood Q))
  unfold E_X4_needGood
  refine su_aload_n hC 14 dX4_needGood_0 rfl (by decide) (by decide) (?_ : SdS X 1 [(0, 14), (1, 100), (2, 0)] [14] _)
  refine su_inv0 (τ := []) (τr := []) (ci := 4) (q := (RX4, TX4, 15)) hC WG (M_X4_isName _) rfl rfl rfl rfl  rfl rfl wl_3_38 wl_3_40 wp_11 wl_1_4 wl_3_41 hd_X4_isName (by rw [e3]; decide) (by decide) dX4_needGood_1 (?_ : SdS X 4 [(0, 14), (1, 100), (2, 0)] [0] _)
  refine su_if_ne (tgt := 17) hC dX4_needGood_4 rfl (?_ : SdS X 17 [(0, 14), (1, 100), (2, 0)] [] _) (?_ : SdS X 7 [(0, 14), (1, 100), (2, 0)] [] _)
  · refine su_aload_n hC 14 dX4_needGood_17 rfl (by decide) (by decide) (?_ : SdS X 18 [(0, 14), (1, 100), (2, 0)] [14] _)
    refine su_inv0 (τ := []) (τr := []) (ci := 4) (q := (RX4, TX4, 15)) hC WG (M_X4_nameNumber _) rfl rfl rfl rfl  rfl rfl wl_3_49 wl_3_51 wp_12 wl_1_4 wl_3_52 hd_X4_nameNumber (by rw [e3]; decide) (by decide) dX4_needGood_18 (?_ : SdS X 21 [(0, 14), (1, 100), (2, 0)] [0] _)
    refine su_istore_n (Γ' := [(0, 14), (1, 100), (2, 0), (3, 0)]) hC dX4_needGood_21 rfl (by rw [e2]; decide) (by decide) (?_ : SdS X 22 [(0, 14), (1, 100), (2, 0), (3, 0)] [] _)
    refine su_iload_n hC dX4_needGood_22 rfl (by decide) (?_ : SdS X 23 [(0, 14), (1, 100), (2, 0), (3, 0)] [0] _)
    refine su_iconst hC dX4_needGood_23 ⟨by decide, by decide⟩ (?_ : SdS X 24 [(0, 14), (1, 100), (2, 0), (3, 0)] [0, 0] _)
    refine su_icmp_eq (tgt := 37) hC dX4_needGood_24 rfl (?_ : SdS X 37 [(0, 14), (1, 100), (2, 0), (3, 0)] [] _) (?_ : SdS X 27 [(0, 14), (1, 100), (2, 0), (3, 0)] [] _)
    · exact SdS.weak (by decide) (S_37)
    · refine su_aload_n hC 14 dX4_needGood_27 rfl (by decide) (by decide) (?_ : SdS X 28 [(0, 14), (1, 100), (2, 0), (3, 0)] [14] _)
      refine su_getR hC (ci := 4) (j := 12) (C := RX4) (T := TX4) (N := 15) rfl rfl (by decide) in_X4 wl_1_165 rfl dX4_needGood_28 (?_ : SdS X 31 [(0, 14), (1, 100), (2, 0), (3, 0)] [100] _)
      refine su_iload_n hC dX4_needGood_31 rfl (by decide) (?_ : SdS X 32 [(0, 14), (1, 100), (2, 0), (3, 0)] [0, 100] _)
      refine su_iaload hC dX4_needGood_32 (?_ : SdS X 33 [(0, 14), (1, 100), (2, 0), (3, 0)] [0] _)
      refine su_iconst hC dX4_needGood_33 ⟨by decide, by decide⟩ (?_ : SdS X 34 [(0, 14), (1, 100), (2, 0), (3, 0)] [0, 0] _)
      refine su_icmp_ne (tgt := 47) hC dX4_needGood_34 rfl (?_ : SdS X 47 [(0, 14), (1, 100), (2, 0), (3, 0)] [] _) (?_ : SdS X 37 [(0, 14), (1, 100), (2, 0), (3, 0)] [] _)
      · refine su_aload_n hC 14 dX4_needGood_47 rfl (by decide) (by decide) (?_ : SdS X 48 [(0, 14), (1, 100), (2, 0), (3, 0)] [14] _)
        refine su_aload_n hC 14 dX4_needGood_48 rfl (by decide) (by decide) (?_ : SdS X 49 [(0, 14), (1, 100), (2, 0), (3, 0)] [14, 14] _)
        refine su_getR hC (ci := 4) (j := 12) (C := RX4) (T := TX4) (N := 15) rfl rfl (by decide) in_X4 wl_1_165 rfl dX4_needGood_49 (?_ : SdS X 52 [(0, 14), (1, 100), (2, 0), (3, 0)] [100, 14] _)
        refine su_iload_n hC dX4_needGood_52 rfl (by decide) (?_ : SdS X 53 [(0, 14), (1, 100), (2, 0), (3, 0)] [0, 100, 14] _)
        refine su_iaload hC dX4_needGood_53 (?_ : SdS X 54 [(0, 14), (1, 100), (2, 0), (3, 0)] [0, 14] _)
        refine su_putF hC (ci := 4) (j := 8) (C := RX4) (T := TX4) (N := 15) tyX4 tyX4_ok nmX4 rfl rfl (by decide) in_X4 rfl rfl wl_1_161 rfl dX4_needGood_54 (?_ : SdS X 57 [(0, 14), (1, 100), (2, 0), (3, 0)] [] _)
        refine su_aload_n hC 14 dX4_needGood_57 rfl (by decide) (by decide) (?_ : SdS X 58 [(0, 14), (1, 100), (2, 0), (3, 0)] [14] _)
        refine su_aload_n hC 100 dX4_needGood_58 rfl (by decide) (by decide) (?_ : SdS X 59 [(0, 14), (1, 100), (2, 0), (3, 0)] [100, 14] _)
        refine su_iload_n hC dX4_needGood_59 rfl (by decide) (?_ : SdS X 60 [(0, 14), (1, 100), (2, 0), (3, 0)] [0, 100, 14] _)
        refine su_inv0v (τ := []) (τr := [100, 0]) (ci := 4) (q := (RX4, TX4, 15)) hC WG (M_X4_put _) rfl rfl rfl rfl  rfl rfl wl_3_62 wl_3_64 wp_15 wl_1_4 wl_3_65 hd_X4_put (by rw [e3]; decide) (by decide) dX4_needGood_60 (?_ : SdS X 63 [(0, 14), (1, 100), (2, 0), (3, 0)] [] _)
        refine su_aload_n hC 14 dX4_needGood_63 rfl (by decide) (by decide) (?_ : SdS X 64 [(0, 14), (1, 100), (2, 0), (3, 0)] [14] _)
        refine su_inv0v (τ := []) (τr := []) (ci := 4) (q := (RX4, TX4, 15)) hC WG (M_X4_step _) rfl rfl rfl rfl  rfl rfl wl_2_190 wl_2_192 wp_2 wl_1_4 wl_2_193 hd_X4_step (by rw [e3]; decide) (by decide) dX4_needGood_64 (?_ : SdS X 67 [(0, 14), (1, 100), (2, 0), (3, 0)] [] _)
        refine su_iconst hC dX4_needGood_67 ⟨by decide, by decide⟩ (?_ : SdS X 68 [(0, 14), (1, 100), (2, 0), (3, 0)] [0] _)
        exact su_zreturn hC hT dX4_needGood_68
      · exact SdS.weak (by decide) (S_37)
  · refine su_aload_n hC 14 dX4_needGood_7 rfl (by decide) (by decide) (?_ : SdS X 8 [(0, 14), (1, 100), (2, 0)] [14] _)
    refine su_iconst hC dX4_needGood_8 ⟨by decide, by decide⟩ (?_ : SdS X 9 [(0, 14), (1, 100), (2, 0)] [0, 14] _)
    refine su_aload_n hC 14 dX4_needGood_9 rfl (by decide) (by decide) (?_ : SdS X 10 [(0, 14), (1, 100), (2, 0)] [14, 0, 14] _)
    refine su_getF hC (ci := 4) (j := 3) (C := RX4) (T := TX4) (N := 15) rfl rfl (by decide) in_X4 wl_1_156 rfl dX4_needGood_10 (?_ : SdS X 13 [(0, 14), (1, 100), (2, 0)] [0, 0, 14] _)
    refine su_inv0 (τ := []) (τr := [0, 0]) (ci := 4) (q := (RX4, TX4, 15)) hC WG (M_X4_flaw _) rfl rfl rfl rfl  rfl rfl wl_3_17 wl_3_19 wp_6 wl_1_4 wl_3_20 hd_X4_flaw (by rw [e3]; decide) (by decide) dX4_needGood_13 (?_ : SdS X 16 [(0, 14), (1, 100), (2, 0)] [0] _)
    exact su_zreturn hC hT dX4_needGood_16
theorem wl_3_117 : Cond.methodLink RX4 124 yX4_needComma ∈ WALL := tb3 (List.mem_of_getElem? (i := 117) rfl) rfl
theorem wl_3_119 : Cond.instanceMethod yX4_needComma ∈ WALL := tb3 (List.mem_of_getElem? (i := 119) rfl) rfl
theorem wp_24 : Cond.selects RX4 yX4_needComma yX4_needComma ∈ WALL := tbS (List.mem_of_getElem? (i := 24) rfl)
theorem wl_3_120 : Cond.code yX4_needComma cX4_needComma 1 (some .boolean) ∈ WALL := tb3 (List.mem_of_getElem? (i := 120) rfl) rfl
theorem hd_X4_needPlace : yX4_needPlace.cls ≠ "java/lang/invoke/MethodHandle" ∧ yX4_needPlace.cls ≠ "java/lang/invoke/VarHandle" ∧ (parseMethodDescriptor yX4_needPlace.desc).map (fun d => d.parameters.length) = some 2 := by decide +kernel
set_option maxRecDepth 100000 in
set_option maxHeartbeats 4000000 in
theorem M_X4_needPlace (l : Launch) : MtS l yX4_needPlace (Cond.code yX4_needPlace cX4_needPlace 3 (some .boolean) :: WALL) { frames := 2, cells := 0, slots := 0, locals := 44 } [14, 100, 0] (some 0) T_X4_needPlace := by
  refine MtS.mk (B := E_X4_needPlace) (by decide +kernel) (by decide) (fun _ _ _ hh => hh) ?_
  intro X Q e1 e2 e3 hC hN hT
  subst e1
  have hC : CF X cX4_needPlace RX4 WALL := hC
  have S_17 : SdS X 17 [(0, 14), (1, 100), (2, 0)] [] (B_X4_needPlace_17 Q) := by
    unfold B_X4_needPlace_17
    refine su_iconst hC dX4_needPlace_17 ⟨by decide, by decide⟩ (?_ : SdS X 18 [(0, 14), (1, 100), (2, 0)] [0] _)
    exact su_zreturn hC hT dX4_needPlace_18
  refine (?_ : SdS X 0 [(0, 14), (1, 100), (2, 0)] [] (E_X4_needPlace Q))
  unfold E_X4_needPlace
  refine su_aload_n hC 14 dX4_needPlace_0 rfl (by decide) (by decide) (?_ : SdS X 1 [(0, 14), (1, 100), (2, 0)] [14] _)
  refine su_inv0 (τ := []) (τr := []) (ci := 4) (q := (RX4, TX4, 15)) hC WG (M_X4_needComma _) rfl rfl rfl rfl  rfl rfl wl_3_117 wl_3_119 wp_24 wl_1_4 wl_3_120 hd_X4_needComma (by rw [e3]; decide) (by decide) dX4_needPlace_1 (?_ : SdS X 4 [(0, 14), (1, 100), (2, 0)] [0] _)
  refine su_if_eq (tgt := 17) hC dX4_needPlace_4 rfl (?_ : SdS X 17 [(0, 14), (1, 100), (2, 0)] [] _) (?_ : SdS X 7 [(0, 14), (1, 100), (2, 0)] [] _)
  · exact SdS.weak (by decide) (S_17)
  · refine su_aload_n hC 14 dX4_needPlace_7 rfl (by decide) (by decide) (?_ : SdS X 8 [(0, 14), (1, 100), (2, 0)] [14] _)
    refine su_iconst hC dX4_needPlace_8 ⟨by decide, by decide⟩ (?_ : SdS X 9 [(0, 14), (1, 100), (2, 0)] [0, 14] _)
    refine su_bipush hC dX4_needPlace_9 (by decide) (?_ : SdS X 11 [(0, 14), (1, 100), (2, 0)] [0, 0, 14] _)
    refine su_inv0 (τ := []) (τr := [0, 0]) (ci := 4) (q := (RX4, TX4, 15)) hC WG (M_X4_needWhole _) rfl rfl rfl rfl  rfl rfl wl_3_21 wl_3_23 wp_7 wl_1_4 wl_3_24 hd_X4_needWhole (by rw [e3]; decide) (by decide) dX4_needPlace_11 (?_ : SdS X 14 [(0, 14), (1, 100), (2, 0)] [0] _)
    refine su_if_ne (tgt := 19) hC dX4_needPlace_14 rfl (?_ : SdS X 19 [(0, 14), (1, 100), (2, 0)] [] _) (?_ : SdS X 17 [(0, 14), (1, 100), (2, 0)] [] _)
    · refine su_aload_n hC 14 dX4_needPlace_19 rfl (by decide) (by decide) (?_ : SdS X 20 [(0, 14), (1, 100), (2, 0)] [14] _)
      refine su_aload_n hC 100 dX4_needPlace_20 rfl (by decide) (by decide) (?_ : SdS X 21 [(0, 14), (1, 100), (2, 0)] [100, 14] _)
      refine su_iload_n hC dX4_needPlace_21 rfl (by decide) (?_ : SdS X 22 [(0, 14), (1, 100), (2, 0)] [0, 100, 14] _)
      refine su_inv0v (τ := []) (τr := [100, 0]) (ci := 4) (q := (RX4, TX4, 15)) hC WG (M_X4_put _) rfl rfl rfl rfl  rfl rfl wl_3_62 wl_3_64 wp_15 wl_1_4 wl_3_65 hd_X4_put (by rw [e3]; decide) (by decide) dX4_needPlace_22 (?_ : SdS X 25 [(0, 14), (1, 100), (2, 0)] [] _)
      refine su_iconst hC dX4_needPlace_25 ⟨by decide, by decide⟩ (?_ : SdS X 26 [(0, 14), (1, 100), (2, 0)] [0] _)
      exact su_zreturn hC hT dX4_needPlace_26
    · exact SdS.weak (by decide) (S_17)

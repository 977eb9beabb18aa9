theorem wl_3_220 : Cond.methodLink RX2 49 yJ7_fill_53178 ∈ WALL := tb3 (List.mem_of_getElem? (i := 220) rfl) rfl
theorem wl_2_46 : Cond.fieldLink RX2 33 "NarrowRings$Day" "paid" "[I" ∈ WALL := tb2 (List.mem_of_getElem? (i := 46) rfl) rfl
theorem wl_2_48 : Cond.fieldLink RX2 36 "NarrowRings$Day" "toiled" "[I" ∈ WALL := tb2 (List.mem_of_getElem? (i := 48) rfl) rfl
theorem wl_1_96 : Cond.fieldLink RX2 55 "NarrowRings$City" "orders" "I" ∈ WALL := tb1 (List.mem_of_getElem? (i := 96) rfl) rfl
theorem wl_1_234 : Cond.fieldLink RX2 58 "NarrowRings$Way" "found" "Z" ∈ WALL := tb1 (List.mem_of_getElem? (i := 234) rfl) rfl
theorem wl_3_221 : Cond.methodLink RX2 65 yX2_addLoad ∈ WALL := tb3 (List.mem_of_getElem? (i := 221) rfl) rfl
theorem wl_3_223 : Cond.instanceMethod yX2_addLoad ∈ WALL := tb3 (List.mem_of_getElem? (i := 223) rfl) rfl
theorem wp_33 : Cond.selects RX2 yX2_addLoad yX2_addLoad ∈ WALL := tbS (List.mem_of_getElem? (i := 33) rfl)
theorem wl_3_224 : Cond.code yX2_addLoad cX2_addLoad 2 none ∈ WALL := tb3 (List.mem_of_getElem? (i := 224) rfl) rfl
theorem wl_2_4 : Cond.fieldLink RX2 64 "NarrowRings$Way" "loads" "I" ∈ WALL := tb2 (List.mem_of_getElem? (i := 4) rfl) rfl
theorem hd_X2_begin : yX2_begin.cls ≠ "java/lang/invoke/MethodHandle" ∧ yX2_begin.cls ≠ "java/lang/invoke/VarHandle" ∧ (parseMethodDescriptor yX2_begin.desc).map (fun d => d.parameters.length) = some 2 := by decide +kernel
set_option maxRecDepth 100000 in
set_option maxHeartbeats 4000000 in
theorem M_X2_begin (l : Launch) : Mt l yX2_begin (Cond.code yX2_begin cX2_begin 6 none :: WALL) { frames := 1, cells := 0, slots := 0, locals := 23 } [12, 11, 117] none T_X2_begin := by
  refine Mt.mk (B := E_X2_begin) (by decide +kernel) (by decide) (fun _ _ _ hh => hh) ?_
  intro X Q e1 e2 e3 hC hN hT
  subst e1
  have hC : CF X cX2_begin RX2 WALL := hC
  have S_124 : ∀ (k56 : tK), Sd X 56 [(0, 12), (1, 11), (2, 117), (3, 0)] [] k56 → Sd X 124 [(0, 12), (1, 11), (2, 117), (3, 0), (4, 0), (5, 0)] [] (B_X2_begin_124 Q k56) := by
    intro k56 h56
    unfold B_X2_begin_124
    refine sd_iinc (Γ' := [(0, 12), (1, 11), (2, 117), (3, 0), (4, 0), (5, 0)]) hC dX2_begin_124 (by decide) (by rw [e2]; decide) (by decide) (?_ : Sd X 127 [(0, 12), (1, 11), (2, 117), (3, 0), (4, 0), (5, 0)] [] _)
    refine sd_goto (tgt := 56) hC dX2_begin_127 rfl (?_ : Sd X 56 [(0, 12), (1, 11), (2, 117), (3, 0), (4, 0), (5, 0)] [] _)
    exact Sd.weak (by decide) h56
  have S_97 : ∀ (k56 : tK), Sd X 56 [(0, 12), (1, 11), (2, 117), (3, 0)] [] k56 → Sd X 97 [(0, 12), (1, 11), (2, 117), (3, 0), (4, 0), (5, 0)] [] (L_X2_begin_97 Q k56) := by
    intro k56 h56
    unfold L_X2_begin_97
    refine Sd.loop (fun k97 h97 => ?_)
    refine sd_iload hC dX2_begin_97 (by decide) (?_ : Sd X 99 [(0, 12), (1, 11), (2, 117), (3, 0), (4, 0), (5, 0)] [0] _)
    refine sd_iload hC dX2_begin_99 (by decide) (?_ : Sd X 101 [(0, 12), (1, 11), (2, 117), (3, 0), (4, 0), (5, 0)] [0, 0] _)
    refine sd_icmp_ge (tgt := 124) hC dX2_begin_101 rfl (?_ : Sd X 124 [(0, 12), (1, 11), (2, 117), (3, 0), (4, 0), (5, 0)] [] _) (?_ : Sd X 104 [(0, 12), (1, 11), (2, 117), (3, 0), (4, 0), (5, 0)] [] _)
    · exact Sd.weak (by decide) (S_124 k56 h56)
    · refine sd_aload_n hC 12 dX2_begin_104 rfl (by decide) (by decide) (?_ : Sd X 105 [(0, 12), (1, 11), (2, 117), (3, 0), (4, 0), (5, 0)] [12] _)
      refine sd_get hC (ci := 2) (j := 1) (C := RX2) (T := TX2) (N := 10) rfl rfl (by decide) in_X2 wl_2_38 dX2_begin_105 (?_ : Sd X 108 [(0, 12), (1, 11), (2, 117), (3, 0), (4, 0), (5, 0)] [0] _)
      refine sd_bipush hC dX2_begin_108 (by decide) (?_ : Sd X 110 [(0, 12), (1, 11), (2, 117), (3, 0), (4, 0), (5, 0)] [0, 0] _)
      refine sd_icmp_ge (tgt := 124) hC dX2_begin_110 rfl (?_ : Sd X 124 [(0, 12), (1, 11), (2, 117), (3, 0), (4, 0), (5, 0)] [] _) (?_ : Sd X 113 [(0, 12), (1, 11), (2, 117), (3, 0), (4, 0), (5, 0)] [] _)
      · exact Sd.weak (by decide) (S_124 k56 h56)
      · refine sd_aload_n hC 12 dX2_begin_113 rfl (by decide) (by decide) (?_ : Sd X 114 [(0, 12), (1, 11), (2, 117), (3, 0), (4, 0), (5, 0)] [12] _)
        refine sd_iload_n hC dX2_begin_114 rfl (by decide) (?_ : Sd X 115 [(0, 12), (1, 11), (2, 117), (3, 0), (4, 0), (5, 0)] [0, 12] _)
        refine sd_inv0v (τ := []) (τr := [0]) (ci := 2) (q := (RX2, TX2, 10)) hC WG (M_X2_addLoad _) rfl rfl rfl rfl  rfl rfl wl_3_221 wl_3_223 wp_33 wl_1_7 wl_3_224 hd_X2_addLoad (by rw [e3]; decide) (by decide) dX2_begin_115 (?_ : Sd X 118 [(0, 12), (1, 11), (2, 117), (3, 0), (4, 0), (5, 0)] [] _)
        refine sd_iinc (Γ' := [(0, 12), (1, 11), (2, 117), (3, 0), (4, 0), (5, 0)]) hC dX2_begin_118 (by decide) (by rw [e2]; decide) (by decide) (?_ : Sd X 121 [(0, 12), (1, 11), (2, 117), (3, 0), (4, 0), (5, 0)] [] _)
        refine sd_goto (tgt := 97) hC dX2_begin_121 rfl (?_ : Sd X 97 [(0, 12), (1, 11), (2, 117), (3, 0), (4, 0), (5, 0)] [] _)
        exact Sd.weak (by decide) h97
  have S_92 : ∀ (k56 : tK), Sd X 56 [(0, 12), (1, 11), (2, 117), (3, 0)] [] k56 → Sd X 92 [(0, 12), (1, 11), (2, 117), (3, 0)] [0] (B_X2_begin_92 Q k56) := by
    intro k56 h56
    unfold B_X2_begin_92
    refine sd_istore (Γ' := [(0, 12), (1, 11), (2, 117), (3, 0), (4, 0)]) hC dX2_begin_92 (by rw [e2]; decide) (by decide) (?_ : Sd X 94 [(0, 12), (1, 11), (2, 117), (3, 0), (4, 0)] [] _)
    refine sd_iconst hC dX2_begin_94 ⟨by decide, by decide⟩ (?_ : Sd X 95 [(0, 12), (1, 11), (2, 117), (3, 0), (4, 0)] [0] _)
    refine sd_istore (Γ' := [(0, 12), (1, 11), (2, 117), (3, 0), (4, 0), (5, 0)]) hC dX2_begin_95 (by rw [e2]; decide) (by decide) (?_ : Sd X 97 [(0, 12), (1, 11), (2, 117), (3, 0), (4, 0), (5, 0)] [] _)
    exact Sd.weak (by decide) (S_97 k56 h56)
  have S_56 : Sd X 56 [(0, 12), (1, 11), (2, 117), (3, 0)] [] (L_X2_begin_56 Q) := by
    unfold L_X2_begin_56
    refine Sd.loop (fun k56 h56 => ?_)
    refine sd_iload_n hC dX2_begin_56 rfl (by decide) (?_ : Sd X 57 [(0, 12), (1, 11), (2, 117), (3, 0)] [0] _)
    refine sd_aload_n hC 12 dX2_begin_57 rfl (by decide) (by decide) (?_ : Sd X 58 [(0, 12), (1, 11), (2, 117), (3, 0)] [12, 0] _)
    refine sd_get hC (ci := 2) (j := 8) (C := RX2) (T := TX2) (N := 10) rfl rfl (by decide) in_X2 wl_2_51 dX2_begin_58 (?_ : Sd X 61 [(0, 12), (1, 11), (2, 117), (3, 0)] [11, 0] _)
    refine sd_get hC (ci := 1) (j := 4) (C := RX1) (T := TX1) (N := 12) rfl rfl (by decide) in_X1 wl_1_96 dX2_begin_61 (?_ : Sd X 64 [(0, 12), (1, 11), (2, 117), (3, 0)] [0, 0] _)
    refine sd_icmp_ge (tgt := 130) hC dX2_begin_64 rfl (?_ : Sd X 130 [(0, 12), (1, 11), (2, 117), (3, 0)] [] _) (?_ : Sd X 67 [(0, 12), (1, 11), (2, 117), (3, 0)] [] _)
    · exact sd_return hC hT dX2_begin_130
    · refine sd_aload_n hC 12 dX2_begin_67 rfl (by decide) (by decide) (?_ : Sd X 68 [(0, 12), (1, 11), (2, 117), (3, 0)] [12] _)
      refine sd_get hC (ci := 2) (j := 9) (C := RX2) (T := TX2) (N := 10) rfl rfl (by decide) in_X2 wl_2_52 dX2_begin_68 (?_ : Sd X 71 [(0, 12), (1, 11), (2, 117), (3, 0)] [117] _)
      refine sd_iload_n hC dX2_begin_71 rfl (by decide) (?_ : Sd X 72 [(0, 12), (1, 11), (2, 117), (3, 0)] [0, 117] _)
      refine sd_aaload (e := 17) hC (List.mem_of_getElem? (i := 6) rfl) rfl rfl dX2_begin_72 (?_ : Sd X 73 [(0, 12), (1, 11), (2, 117), (3, 0)] [17] _)
      refine sd_get hC (ci := 7) (j := 0) (C := RX7) (T := TX7) (N := 7) rfl rfl (by decide) in_X7 wl_1_234 dX2_begin_73 (?_ : Sd X 76 [(0, 12), (1, 11), (2, 117), (3, 0)] [0] _)
      refine sd_if_eq (tgt := 91) hC dX2_begin_76 rfl (?_ : Sd X 91 [(0, 12), (1, 11), (2, 117), (3, 0)] [] _) (?_ : Sd X 79 [(0, 12), (1, 11), (2, 117), (3, 0)] [] _)
      · refine sd_iconst hC dX2_begin_91 ⟨by decide, by decide⟩ (?_ : Sd X 92 [(0, 12), (1, 11), (2, 117), (3, 0)] [0] _)
        exact Sd.weak (by decide) (S_92 k56 h56)
      · refine sd_aload_n hC 12 dX2_begin_79 rfl (by decide) (by decide) (?_ : Sd X 80 [(0, 12), (1, 11), (2, 117), (3, 0)] [12] _)
        refine sd_get hC (ci := 2) (j := 9) (C := RX2) (T := TX2) (N := 10) rfl rfl (by decide) in_X2 wl_2_52 dX2_begin_80 (?_ : Sd X 83 [(0, 12), (1, 11), (2, 117), (3, 0)] [117] _)
        refine sd_iload_n hC dX2_begin_83 rfl (by decide) (?_ : Sd X 84 [(0, 12), (1, 11), (2, 117), (3, 0)] [0, 117] _)
        refine sd_aaload (e := 17) hC (List.mem_of_getElem? (i := 6) rfl) rfl rfl dX2_begin_84 (?_ : Sd X 85 [(0, 12), (1, 11), (2, 117), (3, 0)] [17] _)
        refine sd_get hC (ci := 7) (j := 4) (C := RX7) (T := TX7) (N := 7) rfl rfl (by decide) in_X7 wl_2_4 dX2_begin_85 (?_ : Sd X 88 [(0, 12), (1, 11), (2, 117), (3, 0)] [0] _)
        refine sd_goto (tgt := 92) hC dX2_begin_88 rfl (?_ : Sd X 92 [(0, 12), (1, 11), (2, 117), (3, 0)] [0] _)
        exact Sd.weak (by decide) (S_92 k56 h56)
  refine (?_ : Sd X 0 [(0, 12), (1, 11), (2, 117)] [] (E_X2_begin Q))
  unfold E_X2_begin
  refine sd_aload_n hC 12 dX2_begin_0 rfl (by decide) (by decide) (?_ : Sd X 1 [(0, 12), (1, 11), (2, 117)] [12] _)
  refine sd_aload_n hC 11 dX2_begin_1 rfl (by decide) (by decide) (?_ : Sd X 2 [(0, 12), (1, 11), (2, 117)] [11, 12] _)
  refine sd_put hC (ci := 2) (j := 8) (C := RX2) (T := TX2) (N := 10) tyX2 tyX2_ok nmX2 rfl rfl (by decide) in_X2 rfl rfl wl_2_51 dX2_begin_2 (?_ : Sd X 5 [(0, 12), (1, 11), (2, 117)] [] _)
  refine sd_aload_n hC 12 dX2_begin_5 rfl (by decide) (by decide) (?_ : Sd X 6 [(0, 12), (1, 11), (2, 117)] [12] _)
  refine sd_aload_n hC 117 dX2_begin_6 rfl (by decide) (by decide) (?_ : Sd X 7 [(0, 12), (1, 11), (2, 117)] [117, 12] _)
  refine sd_put hC (ci := 2) (j := 9) (C := RX2) (T := TX2) (N := 10) tyX2 tyX2_ok nmX2 rfl rfl (by decide) in_X2 rfl rfl wl_2_52 dX2_begin_7 (?_ : Sd X 10 [(0, 12), (1, 11), (2, 117)] [] _)
  refine sd_aload_n hC 12 dX2_begin_10 rfl (by decide) (by decide) (?_ : Sd X 11 [(0, 12), (1, 11), (2, 117)] [12] _)
  refine sd_iconst hC dX2_begin_11 ⟨by decide, by decide⟩ (?_ : Sd X 12 [(0, 12), (1, 11), (2, 117)] [0, 12] _)
  refine sd_put hC (ci := 2) (j := 0) (C := RX2) (T := TX2) (N := 10) tyX2 tyX2_ok nmX2 rfl rfl (by decide) in_X2 rfl rfl wl_2_36 dX2_begin_12 (?_ : Sd X 15 [(0, 12), (1, 11), (2, 117)] [] _)
  refine sd_aload_n hC 12 dX2_begin_15 rfl (by decide) (by decide) (?_ : Sd X 16 [(0, 12), (1, 11), (2, 117)] [12] _)
  refine sd_iconst hC dX2_begin_16 ⟨by decide, by decide⟩ (?_ : Sd X 17 [(0, 12), (1, 11), (2, 117)] [0, 12] _)
  refine sd_put hC (ci := 2) (j := 1) (C := RX2) (T := TX2) (N := 10) tyX2 tyX2_ok nmX2 rfl rfl (by decide) in_X2 rfl rfl wl_2_38 dX2_begin_17 (?_ : Sd X 20 [(0, 12), (1, 11), (2, 117)] [] _)
  refine sd_aload_n hC 12 dX2_begin_20 rfl (by decide) (by decide) (?_ : Sd X 21 [(0, 12), (1, 11), (2, 117)] [12] _)
  refine sd_get hC (ci := 2) (j := 3) (C := RX2) (T := TX2) (N := 10) rfl rfl (by decide) in_X2 wl_2_42 dX2_begin_21 (?_ : Sd X 24 [(0, 12), (1, 11), (2, 117)] [100] _)
  refine sd_bipush hC dX2_begin_24 (by decide) (?_ : Sd X 26 [(0, 12), (1, 11), (2, 117)] [0, 100] _)
  refine sd_invsv (τ := []) (τs := [100, 0]) hC false "" WG (M_J7_fill_53178 _) rfl rfl rfl rfl wl_3_220 wl_2_188 wl_1_11 wl_2_189 hd_J7_fill_53178 (by rw [e3]; decide) (by decide) dX2_begin_26 (?_ : Sd X 29 [(0, 12), (1, 11), (2, 117)] [] _)
  refine sd_aload_n hC 12 dX2_begin_29 rfl (by decide) (by decide) (?_ : Sd X 30 [(0, 12), (1, 11), (2, 117)] [12] _)
  refine sd_get hC (ci := 2) (j := 4) (C := RX2) (T := TX2) (N := 10) rfl rfl (by decide) in_X2 wl_2_44 dX2_begin_30 (?_ : Sd X 33 [(0, 12), (1, 11), (2, 117)] [100] _)
  refine sd_bipush hC dX2_begin_33 (by decide) (?_ : Sd X 35 [(0, 12), (1, 11), (2, 117)] [0, 100] _)
  refine sd_invsv (τ := []) (τs := [100, 0]) hC false "" WG (M_J7_fill_53178 _) rfl rfl rfl rfl wl_3_220 wl_2_188 wl_1_11 wl_2_189 hd_J7_fill_53178 (by rw [e3]; decide) (by decide) dX2_begin_35 (?_ : Sd X 38 [(0, 12), (1, 11), (2, 117)] [] _)
  refine sd_aload_n hC 12 dX2_begin_38 rfl (by decide) (by decide) (?_ : Sd X 39 [(0, 12), (1, 11), (2, 117)] [12] _)
  refine sd_get hC (ci := 2) (j := 5) (C := RX2) (T := TX2) (N := 10) rfl rfl (by decide) in_X2 wl_2_46 dX2_begin_39 (?_ : Sd X 42 [(0, 12), (1, 11), (2, 117)] [100] _)
  refine sd_iconst hC dX2_begin_42 ⟨by decide, by decide⟩ (?_ : Sd X 43 [(0, 12), (1, 11), (2, 117)] [0, 100] _)
  refine sd_invsv (τ := []) (τs := [100, 0]) hC false "" WG (M_J7_fill_53178 _) rfl rfl rfl rfl wl_3_220 wl_2_188 wl_1_11 wl_2_189 hd_J7_fill_53178 (by rw [e3]; decide) (by decide) dX2_begin_43 (?_ : Sd X 46 [(0, 12), (1, 11), (2, 117)] [] _)
  refine sd_aload_n hC 12 dX2_begin_46 rfl (by decide) (by decide) (?_ : Sd X 47 [(0, 12), (1, 11), (2, 117)] [12] _)
  refine sd_get hC (ci := 2) (j := 6) (C := RX2) (T := TX2) (N := 10) rfl rfl (by decide) in_X2 wl_2_48 dX2_begin_47 (?_ : Sd X 50 [(0, 12), (1, 11), (2, 117)] [100] _)
  refine sd_iconst hC dX2_begin_50 ⟨by decide, by decide⟩ (?_ : Sd X 51 [(0, 12), (1, 11), (2, 117)] [0, 100] _)
  refine sd_invsv (τ := []) (τs := [100, 0]) hC false "" WG (M_J7_fill_53178 _) rfl rfl rfl rfl wl_3_220 wl_2_188 wl_1_11 wl_2_189 hd_J7_fill_53178 (by rw [e3]; decide) (by decide) dX2_begin_51 (?_ : Sd X 54 [(0, 12), (1, 11), (2, 117)] [] _)
  refine sd_iconst hC dX2_begin_54 ⟨by decide, by decide⟩ (?_ : Sd X 55 [(0, 12), (1, 11), (2, 117)] [0] _)
  refine sd_istore_n (Γ' := [(0, 12), (1, 11), (2, 117), (3, 0)]) hC dX2_begin_55 rfl (by rw [e2]; decide) (by decide) (?_ : Sd X 56 [(0, 12), (1, 11), (2, 117), (3, 0)] [] _)
  exact Sd.weak (by decide) (S_56)
theorem wl_4_215 : Cond.methodLink RX2 72 (⟨"java/lang/System", "arraycopy", "(Ljava/lang/Object;ILjava/lang/Object;II)V"⟩ : MethodName) ∈ WALL := tb4 (List.mem_of_getElem? (i := 215) rfl) rfl
theorem hd_X2_copy : yX2_copy.cls ≠ "java/lang/invoke/MethodHandle" ∧ yX2_copy.cls ≠ "java/lang/invoke/VarHandle" ∧ (parseMethodDescriptor yX2_copy.desc).map (fun d => d.parameters.length) = some 1 := by decide +kernel
set_option maxRecDepth 100000 in
set_option maxHeartbeats 4000000 in
theorem M_X2_copy (l : Launch) : Mt l yX2_copy (Cond.code yX2_copy cX2_copy 3 none :: WALL) { frames := 1, cells := 0, slots := 0, locals := 26 } [12, 12] none T_X2_copy := by
  refine Mt.mk (B := E_X2_copy) (by decide +kernel) (by decide) (fun _ _ _ hh => hh) ?_
  intro X Q e1 e2 e3 hC hN hT
  subst e1
  have hC : CF X cX2_copy RX2 WALL := hC
  have S_34 : Sd X 34 [(0, 12), (1, 12), (2, 0)] [] (L_X2_copy_34 Q) := by
    unfold L_X2_copy_34
    refine Sd.loop (fun k34 h34 => ?_)
    refine sd_iload_n hC dX2_copy_34 rfl (by decide) (?_ : Sd X 35 [(0, 12), (1, 12), (2, 0)] [0] _)
    refine sd_bipush hC dX2_copy_35 (by decide) (?_ : Sd X 37 [(0, 12), (1, 12), (2, 0)] [0, 0] _)
    refine sd_icmp_ge (tgt := 67) hC dX2_copy_37 rfl (?_ : Sd X 67 [(0, 12), (1, 12), (2, 0)] [] _) (?_ : Sd X 40 [(0, 12), (1, 12), (2, 0)] [] _)
    · refine sd_aload_n hC 12 dX2_copy_67 rfl (by decide) (by decide) (?_ : Sd X 68 [(0, 12), (1, 12), (2, 0)] [12] _)
      refine sd_get hC (ci := 2) (j := 3) (C := RX2) (T := TX2) (N := 10) rfl rfl (by decide) in_X2 wl_2_42 dX2_copy_68 (?_ : Sd X 71 [(0, 12), (1, 12), (2, 0)] [100] _)
      refine sd_iconst hC dX2_copy_71 ⟨by decide, by decide⟩ (?_ : Sd X 72 [(0, 12), (1, 12), (2, 0)] [0, 100] _)
      refine sd_aload_n hC 12 dX2_copy_72 rfl (by decide) (by decide) (?_ : Sd X 73 [(0, 12), (1, 12), (2, 0)] [12, 0, 100] _)
      refine sd_get hC (ci := 2) (j := 3) (C := RX2) (T := TX2) (N := 10) rfl rfl (by decide) in_X2 wl_2_42 dX2_copy_73 (?_ : Sd X 76 [(0, 12), (1, 12), (2, 0)] [100, 0, 100] _)
      refine sd_iconst hC dX2_copy_76 ⟨by decide, by decide⟩ (?_ : Sd X 77 [(0, 12), (1, 12), (2, 0)] [0, 100, 0, 100] _)
      refine sd_bipush hC dX2_copy_77 (by decide) (?_ : Sd X 79 [(0, 12), (1, 12), (2, 0)] [0, 0, 100, 0, 100] _)
      refine sd_acopy hC wl_4_215 wl_4_217 wl_4_216 wl_1_18 (by rw [e3]; decide) (by decide) dX2_copy_79 (?_ : Sd X 82 [(0, 12), (1, 12), (2, 0)] [] _)
      refine sd_aload_n hC 12 dX2_copy_82 rfl (by decide) (by decide) (?_ : Sd X 83 [(0, 12), (1, 12), (2, 0)] [12] _)
      refine sd_get hC (ci := 2) (j := 4) (C := RX2) (T := TX2) (N := 10) rfl rfl (by decide) in_X2 wl_2_44 dX2_copy_83 (?_ : Sd X 86 [(0, 12), (1, 12), (2, 0)] [100] _)
      refine sd_iconst hC dX2_copy_86 ⟨by decide, by decide⟩ (?_ : Sd X 87 [(0, 12), (1, 12), (2, 0)] [0, 100] _)
      refine sd_aload_n hC 12 dX2_copy_87 rfl (by decide) (by decide) (?_ : Sd X 88 [(0, 12), (1, 12), (2, 0)] [12, 0, 100] _)
      refine sd_get hC (ci := 2) (j := 4) (C := RX2) (T := TX2) (N := 10) rfl rfl (by decide) in_X2 wl_2_44 dX2_copy_88 (?_ : Sd X 91 [(0, 12), (1, 12), (2, 0)] [100, 0, 100] _)
      refine sd_iconst hC dX2_copy_91 ⟨by decide, by decide⟩ (?_ : Sd X 92 [(0, 12), (1, 12), (2, 0)] [0, 100, 0, 100] _)
      refine sd_bipush hC dX2_copy_92 (by decide) (?_ : Sd X 94 [(0, 12), (1, 12), (2, 0)] [0, 0, 100, 0, 100] _)
      refine sd_acopy hC wl_4_215 wl_4_217 wl_4_216 wl_1_18 (by rw [e3]; decide) (by decide) dX2_copy_94 (?_ : Sd X 97 [(0, 12), (1, 12), (2, 0)] [] _)
      refine sd_aload_n hC 12 dX2_copy_97 rfl (by decide) (by decide) (?_ : Sd X 98 [(0, 12), (1, 12), (2, 0)] [12] _)
      refine sd_get hC (ci := 2) (j := 5) (C := RX2) (T := TX2) (N := 10) rfl rfl (by decide) in_X2 wl_2_46 dX2_copy_98 (?_ : Sd X 101 [(0, 12), (1, 12), (2, 0)] [100] _)
      refine sd_iconst hC dX2_copy_101 ⟨by decide, by decide⟩ (?_ : Sd X 102 [(0, 12), (1, 12), (2, 0)] [0, 100] _)
      refine sd_aload_n hC 12 dX2_copy_102 rfl (by decide) (by decide) (?_ : Sd X 103 [(0, 12), (1, 12), (2, 0)] [12, 0, 100] _)
      refine sd_get hC (ci := 2) (j := 5) (C := RX2) (T := TX2) (N := 10) rfl rfl (by decide) in_X2 wl_2_46 dX2_copy_103 (?_ : Sd X 106 [(0, 12), (1, 12), (2, 0)] [100, 0, 100] _)
      refine sd_iconst hC dX2_copy_106 ⟨by decide, by decide⟩ (?_ : Sd X 107 [(0, 12), (1, 12), (2, 0)] [0, 100, 0, 100] _)
      refine sd_bipush hC dX2_copy_107 (by decide) (?_ : Sd X 109 [(0, 12), (1, 12), (2, 0)] [0, 0, 100, 0, 100] _)
      refine sd_acopy hC wl_4_215 wl_4_217 wl_4_216 wl_1_18 (by rw [e3]; decide) (by decide) dX2_copy_109 (?_ : Sd X 112 [(0, 12), (1, 12), (2, 0)] [] _)
      refine sd_aload_n hC 12 dX2_copy_112 rfl (by decide) (by decide) (?_ : Sd X 113 [(0, 12), (1, 12), (2, 0)] [12] _)
      refine sd_get hC (ci := 2) (j := 6) (C := RX2) (T := TX2) (N := 10) rfl rfl (by decide) in_X2 wl_2_48 dX2_copy_113 (?_ : Sd X 116 [(0, 12), (1, 12), (2, 0)] [100] _)
      refine sd_iconst hC dX2_copy_116 ⟨by decide, by decide⟩ (?_ : Sd X 117 [(0, 12), (1, 12), (2, 0)] [0, 100] _)
      refine sd_aload_n hC 12 dX2_copy_117 rfl (by decide) (by decide) (?_ : Sd X 118 [(0, 12), (1, 12), (2, 0)] [12, 0, 100] _)
      refine sd_get hC (ci := 2) (j := 6) (C := RX2) (T := TX2) (N := 10) rfl rfl (by decide) in_X2 wl_2_48 dX2_copy_118 (?_ : Sd X 121 [(0, 12), (1, 12), (2, 0)] [100, 0, 100] _)
      refine sd_iconst hC dX2_copy_121 ⟨by decide, by decide⟩ (?_ : Sd X 122 [(0, 12), (1, 12), (2, 0)] [0, 100, 0, 100] _)
      refine sd_bipush hC dX2_copy_122 (by decide) (?_ : Sd X 124 [(0, 12), (1, 12), (2, 0)] [0, 0, 100, 0, 100] _)
      refine sd_acopy hC wl_4_215 wl_4_217 wl_4_216 wl_1_18 (by rw [e3]; decide) (by decide) dX2_copy_124 (?_ : Sd X 127 [(0, 12), (1, 12), (2, 0)] [] _)
      exact sd_return hC hT dX2_copy_127
    · refine sd_aload_n hC 12 dX2_copy_40 rfl (by decide) (by decide) (?_ : Sd X 41 [(0, 12), (1, 12), (2, 0)] [12] _)
      refine sd_get hC (ci := 2) (j := 2) (C := RX2) (T := TX2) (N := 10) rfl rfl (by decide) in_X2 wl_2_40 dX2_copy_41 (?_ : Sd X 44 [(0, 12), (1, 12), (2, 0)] [200] _)
      refine sd_iload_n hC dX2_copy_44 rfl (by decide) (?_ : Sd X 45 [(0, 12), (1, 12), (2, 0)] [0, 200] _)
      refine sd_aaload (e := 100) hC (List.mem_of_getElem? (i := 7) rfl) rfl rfl dX2_copy_45 (?_ : Sd X 46 [(0, 12), (1, 12), (2, 0)] [100] _)
      refine sd_iconst hC dX2_copy_46 ⟨by decide, by decide⟩ (?_ : Sd X 47 [(0, 12), (1, 12), (2, 0)] [0, 100] _)
      refine sd_aload_n hC 12 dX2_copy_47 rfl (by decide) (by decide) (?_ : Sd X 48 [(0, 12), (1, 12), (2, 0)] [12, 0, 100] _)
      refine sd_get hC (ci := 2) (j := 2) (C := RX2) (T := TX2) (N := 10) rfl rfl (by decide) in_X2 wl_2_40 dX2_copy_48 (?_ : Sd X 51 [(0, 12), (1, 12), (2, 0)] [200, 0, 100] _)
      refine sd_iload_n hC dX2_copy_51 rfl (by decide) (?_ : Sd X 52 [(0, 12), (1, 12), (2, 0)] [0, 200, 0, 100] _)
      refine sd_aaload (e := 100) hC (List.mem_of_getElem? (i := 7) rfl) rfl rfl dX2_copy_52 (?_ : Sd X 53 [(0, 12), (1, 12), (2, 0)] [100, 0, 100] _)
      refine sd_iconst hC dX2_copy_53 ⟨by decide, by decide⟩ (?_ : Sd X 54 [(0, 12), (1, 12), (2, 0)] [0, 100, 0, 100] _)
      refine sd_aload_n hC 12 dX2_copy_54 rfl (by decide) (by decide) (?_ : Sd X 55 [(0, 12), (1, 12), (2, 0)] [12, 0, 100, 0, 100] _)
      refine sd_get hC (ci := 2) (j := 1) (C := RX2) (T := TX2) (N := 10) rfl rfl (by decide) in_X2 wl_2_38 dX2_copy_55 (?_ : Sd X 58 [(0, 12), (1, 12), (2, 0)] [0, 0, 100, 0, 100] _)
      refine sd_acopy hC wl_4_215 wl_4_217 wl_4_216 wl_1_18 (by rw [e3]; decide) (by decide) dX2_copy_58 (?_ : Sd X 61 [(0, 12), (1, 12), (2, 0)] [] _)
      refine sd_iinc (Γ' := [(0, 12), (1, 12), (2, 0)]) hC dX2_copy_61 (by decide) (by rw [e2]; decide) (by decide) (?_ : Sd X 64 [(0, 12), (1, 12), (2, 0)] [] _)
      refine sd_goto (tgt := 34) hC dX2_copy_64 rfl (?_ : Sd X 34 [(0, 12), (1, 12), (2, 0)] [] _)
      exact Sd.weak (by decide) h34
  refine (?_ : Sd X 0 [(0, 12), (1, 12)] [] (E_X2_copy Q))
  unfold E_X2_copy
  refine sd_aload_n hC 12 dX2_copy_0 rfl (by decide) (by decide) (?_ : Sd X 1 [(0, 12), (1, 12)] [12] _)
  refine sd_aload_n hC 12 dX2_copy_1 rfl (by decide) (by decide) (?_ : Sd X 2 [(0, 12), (1, 12)] [12, 12] _)
  refine sd_get hC (ci := 2) (j := 8) (C := RX2) (T := TX2) (N := 10) rfl rfl (by decide) in_X2 wl_2_51 dX2_copy_2 (?_ : Sd X 5 [(0, 12), (1, 12)] [11, 12] _)
  refine sd_put hC (ci := 2) (j := 8) (C := RX2) (T := TX2) (N := 10) tyX2 tyX2_ok nmX2 rfl rfl (by decide) in_X2 rfl rfl wl_2_51 dX2_copy_5 (?_ : Sd X 8 [(0, 12), (1, 12)] [] _)
  refine sd_aload_n hC 12 dX2_copy_8 rfl (by decide) (by decide) (?_ : Sd X 9 [(0, 12), (1, 12)] [12] _)
  refine sd_aload_n hC 12 dX2_copy_9 rfl (by decide) (by decide) (?_ : Sd X 10 [(0, 12), (1, 12)] [12, 12] _)
  refine sd_get hC (ci := 2) (j := 9) (C := RX2) (T := TX2) (N := 10) rfl rfl (by decide) in_X2 wl_2_52 dX2_copy_10 (?_ : Sd X 13 [(0, 12), (1, 12)] [117, 12] _)
  refine sd_put hC (ci := 2) (j := 9) (C := RX2) (T := TX2) (N := 10) tyX2 tyX2_ok nmX2 rfl rfl (by decide) in_X2 rfl rfl wl_2_52 dX2_copy_13 (?_ : Sd X 16 [(0, 12), (1, 12)] [] _)
  refine sd_aload_n hC 12 dX2_copy_16 rfl (by decide) (by decide) (?_ : Sd X 17 [(0, 12), (1, 12)] [12] _)
  refine sd_aload_n hC 12 dX2_copy_17 rfl (by decide) (by decide) (?_ : Sd X 18 [(0, 12), (1, 12)] [12, 12] _)
  refine sd_get hC (ci := 2) (j := 0) (C := RX2) (T := TX2) (N := 10) rfl rfl (by decide) in_X2 wl_2_36 dX2_copy_18 (?_ : Sd X 21 [(0, 12), (1, 12)] [0, 12] _)
  refine sd_put hC (ci := 2) (j := 0) (C := RX2) (T := TX2) (N := 10) tyX2 tyX2_ok nmX2 rfl rfl (by decide) in_X2 rfl rfl wl_2_36 dX2_copy_21 (?_ : Sd X 24 [(0, 12), (1, 12)] [] _)
  refine sd_aload_n hC 12 dX2_copy_24 rfl (by decide) (by decide) (?_ : Sd X 25 [(0, 12), (1, 12)] [12] _)
  refine sd_aload_n hC 12 dX2_copy_25 rfl (by decide) (by decide) (?_ : Sd X 26 [(0, 12), (1, 12)] [12, 12] _)
  refine sd_get hC (ci := 2) (j := 1) (C := RX2) (T := TX2) (N := 10) rfl rfl (by decide) in_X2 wl_2_38 dX2_copy_26 (?_ : Sd X 29 [(0, 12), (1, 12)] [0, 12] _)
  refine sd_put hC (ci := 2) (j := 1) (C := RX2) (T := TX2) (N := 10) tyX2 tyX2_ok nmX2 rfl rfl (by decide) in_X2 rfl rfl wl_2_38 dX2_copy_29 (?_ : Sd X 32 [(0, 12), (1, 12)] [] _)
  refine sd_iconst hC dX2_copy_32 ⟨by decide, by decide⟩ (?_ : Sd X 33 [(0, 12), (1, 12)] [0] _)
  refine sd_istore_n (Γ' := [(0, 12), (1, 12), (2, 0)]) hC dX2_copy_33 rfl (by rw [e2]; decide) (by decide) (?_ : Sd X 34 [(0, 12), (1, 12), (2, 0)] [] _)
  exact Sd.weak (by decide) (S_34)
theorem wl_1_237 : Cond.fieldLink RX2 87 "NarrowRings$Way" "cut" "Z" ∈ WALL := tb1 (List.mem_of_getElem? (i := 237) rfl) rfl
theorem wl_4_151 : Cond.methodLink RX2 90 yX1_thing ∈ WALL := tb4 (List.mem_of_getElem? (i := 151) rfl) rfl
theorem wl_3_132 : Cond.instanceMethod yX1_thing ∈ WALL := tb3 (List.mem_of_getElem? (i := 132) rfl) rfl
theorem wl_3_133 : Cond.selects RX1 yX1_thing yX1_thing ∈ WALL := tb3 (List.mem_of_getElem? (i := 133) rfl) rfl
theorem wl_3_134 : Cond.code yX1_thing cX1_thing 3 (some (.object "NarrowRings$Thing")) ∈ WALL := tb3 (List.mem_of_getElem? (i := 134) rfl) rfl
theorem hd_X2_thingOf : yX2_thingOf.cls ≠ "java/lang/invoke/MethodHandle" ∧ yX2_thingOf.cls ≠ "java/lang/invoke/VarHandle" ∧ (parseMethodDescriptor yX2_thingOf.desc).map (fun d => d.parameters.length) = some 1 := by decide +kernel
set_option maxRecDepth 100000 in
set_option maxHeartbeats 4000000 in
theorem M_X2_thingOf (l : Launch) : Mt l yX2_thingOf (Cond.code yX2_thingOf cX2_thingOf 3 (some (.object "NarrowRings$Thing")) :: WALL) { frames := 1, cells := 0, slots := 0, locals := 22 } [12, 0] (some 16) T_X2_thingOf := by
  refine Mt.mk (B := E_X2_thingOf) (by decide +kernel) (by decide) (fun _ _ _ hh => hh) ?_
  intro X Q e1 e2 e3 hC hN hT
  subst e1
  have hC : CF X cX2_thingOf RX2 WALL := hC
  refine (?_ : Sd X 0 [(0, 12), (1, 0)] [] (E_X2_thingOf Q))
  unfold E_X2_thingOf
  refine sd_aload_n hC 12 dX2_thingOf_0 rfl (by decide) (by decide) (?_ : Sd X 1 [(0, 12), (1, 0)] [12] _)
  refine sd_get hC (ci := 2) (j := 2) (C := RX2) (T := TX2) (N := 10) rfl rfl (by decide) in_X2 wl_2_40 dX2_thingOf_1 (?_ : Sd X 4 [(0, 12), (1, 0)] [200] _)
  refine sd_iconst hC dX2_thingOf_4 ⟨by decide, by decide⟩ (?_ : Sd X 5 [(0, 12), (1, 0)] [0, 200] _)
  refine sd_aaload (e := 100) hC (List.mem_of_getElem? (i := 7) rfl) rfl rfl dX2_thingOf_5 (?_ : Sd X 6 [(0, 12), (1, 0)] [100] _)
  refine sd_iload_n hC dX2_thingOf_6 rfl (by decide) (?_ : Sd X 7 [(0, 12), (1, 0)] [0, 100] _)
  refine sd_iaload hC dX2_thingOf_7 (?_ : Sd X 8 [(0, 12), (1, 0)] [0] _)
  refine sd_istore_n (Γ' := [(0, 12), (1, 0), (2, 0)]) hC dX2_thingOf_8 rfl (by rw [e2]; decide) (by decide) (?_ : Sd X 9 [(0, 12), (1, 0), (2, 0)] [] _)
  refine sd_aload_n hC 12 dX2_thingOf_9 rfl (by decide) (by decide) (?_ : Sd X 10 [(0, 12), (1, 0), (2, 0)] [12] _)
  refine sd_get hC (ci := 2) (j := 8) (C := RX2) (T := TX2) (N := 10) rfl rfl (by decide) in_X2 wl_2_51 dX2_thingOf_10 (?_ : Sd X 13 [(0, 12), (1, 0), (2, 0)] [11] _)
  refine sd_aload_n hC 12 dX2_thingOf_13 rfl (by decide) (by decide) (?_ : Sd X 14 [(0, 12), (1, 0), (2, 0)] [12, 11] _)
  refine sd_get hC (ci := 2) (j := 8) (C := RX2) (T := TX2) (N := 10) rfl rfl (by decide) in_X2 wl_2_51 dX2_thingOf_14 (?_ : Sd X 17 [(0, 12), (1, 0), (2, 0)] [11, 11] _)
  refine sd_get hC (ci := 1) (j := 9) (C := RX1) (T := TX1) (N := 12) rfl rfl (by decide) in_X1 wl_1_113 dX2_thingOf_17 (?_ : Sd X 20 [(0, 12), (1, 0), (2, 0)] [200, 11] _)
  refine sd_iload_n hC dX2_thingOf_20 rfl (by decide) (?_ : Sd X 21 [(0, 12), (1, 0), (2, 0)] [0, 200, 11] _)
  refine sd_aaload (e := 100) hC (List.mem_of_getElem? (i := 7) rfl) rfl rfl dX2_thingOf_21 (?_ : Sd X 22 [(0, 12), (1, 0), (2, 0)] [100, 11] _)
  refine sd_iconst hC dX2_thingOf_22 ⟨by decide, by decide⟩ (?_ : Sd X 23 [(0, 12), (1, 0), (2, 0)] [0, 100, 11] _)
  refine sd_iaload hC dX2_thingOf_23 (?_ : Sd X 24 [(0, 12), (1, 0), (2, 0)] [0, 11] _)
  refine sd_aload_n hC 12 dX2_thingOf_24 rfl (by decide) (by decide) (?_ : Sd X 25 [(0, 12), (1, 0), (2, 0)] [12, 0, 11] _)
  refine sd_get hC (ci := 2) (j := 9) (C := RX2) (T := TX2) (N := 10) rfl rfl (by decide) in_X2 wl_2_52 dX2_thingOf_25 (?_ : Sd X 28 [(0, 12), (1, 0), (2, 0)] [117, 0, 11] _)
  refine sd_iload_n hC dX2_thingOf_28 rfl (by decide) (?_ : Sd X 29 [(0, 12), (1, 0), (2, 0)] [0, 117, 0, 11] _)
  refine sd_aaload (e := 17) hC (List.mem_of_getElem? (i := 6) rfl) rfl rfl dX2_thingOf_29 (?_ : Sd X 30 [(0, 12), (1, 0), (2, 0)] [17, 0, 11] _)
  refine sd_get hC (ci := 7) (j := 1) (C := RX7) (T := TX7) (N := 7) rfl rfl (by decide) in_X7 wl_1_237 dX2_thingOf_30 (?_ : Sd X 33 [(0, 12), (1, 0), (2, 0)] [0, 0, 11] _)
  refine sd_inv0 (τ := []) (τr := [0, 0]) (ci := 1) (q := (RX1, TX1, 12)) hC WG (M_X1_thing _) rfl rfl rfl rfl  rfl rfl wl_4_151 wl_3_132 wl_3_133 wl_1_2 wl_3_134 hd_X1_thing (by rw [e3]; decide) (by decide) dX2_thingOf_33 (?_ : Sd X 36 [(0, 12), (1, 0), (2, 0)] [16] _)
  exact sd_areturn hC (by decide) hT dX2_thingOf_36
theorem wl_4_147 : Cond.methodLink RX2 123 yX2_thingOf ∈ WALL := tb4 (List.mem_of_getElem? (i := 147) rfl) rfl
theorem wl_4_149 : Cond.instanceMethod yX2_thingOf ∈ WALL := tb4 (List.mem_of_getElem? (i := 149) rfl) rfl
theorem wp_53 : Cond.selects RX2 yX2_thingOf yX2_thingOf ∈ WALL := tbS (List.mem_of_getElem? (i := 53) rfl)
theorem wl_4_150 : Cond.code yX2_thingOf cX2_thingOf 3 (some (.object "NarrowRings$Thing")) ∈ WALL := tb4 (List.mem_of_getElem? (i := 150) rfl) rfl
theorem wl_4_152 : Cond.methodLink RX2 127 yX1_loadingHours ∈ WALL := tb4 (List.mem_of_getElem? (i := 152) rfl) rfl
theorem hd_X2_loadOver : yX2_loadOver.cls ≠ "java/lang/invoke/MethodHandle" ∧ yX2_loadOver.cls ≠ "java/lang/invoke/VarHandle" ∧ (parseMethodDescriptor yX2_loadOver.desc).map (fun d => d.parameters.length) = some 2 := by decide +kernel
set_option maxRecDepth 100000 in
set_option maxHeartbeats 4000000 in
theorem M_X2_loadOver (l : Launch) : Mt l yX2_loadOver (Cond.code yX2_loadOver cX2_loadOver 4 none :: WALL) { frames := 2, cells := 0, slots := 0, locals := 44 } [12, 0, 0] none T_X2_loadOver := by
  refine Mt.mk (B := E_X2_loadOver) (by decide +kernel) (by decide) (fun _ _ _ hh => hh) ?_
  intro X Q e1 e2 e3 hC hN hT
  subst e1
  have hC : CF X cX2_loadOver RX2 WALL := hC
  refine (?_ : Sd X 0 [(0, 12), (1, 0), (2, 0)] [] (E_X2_loadOver Q))
  unfold E_X2_loadOver
  refine sd_aload_n hC 12 dX2_loadOver_0 rfl (by decide) (by decide) (?_ : Sd X 1 [(0, 12), (1, 0), (2, 0)] [12] _)
  refine sd_get hC (ci := 2) (j := 8) (C := RX2) (T := TX2) (N := 10) rfl rfl (by decide) in_X2 wl_2_51 dX2_loadOver_1 (?_ : Sd X 4 [(0, 12), (1, 0), (2, 0)] [11] _)
  refine sd_aload_n hC 12 dX2_loadOver_4 rfl (by decide) (by decide) (?_ : Sd X 5 [(0, 12), (1, 0), (2, 0)] [12, 11] _)
  refine sd_iload_n hC dX2_loadOver_5 rfl (by decide) (?_ : Sd X 6 [(0, 12), (1, 0), (2, 0)] [0, 12, 11] _)
  refine sd_inv0 (τ := [11]) (τr := [0]) (ci := 2) (q := (RX2, TX2, 10)) hC WG (M_X2_thingOf _) rfl rfl rfl rfl  rfl rfl wl_4_147 wl_4_149 wp_53 wl_1_7 wl_4_150 hd_X2_thingOf (by rw [e3]; decide) (by decide) dX2_loadOver_6 (?_ : Sd X 9 [(0, 12), (1, 0), (2, 0)] [16, 11] _)
  refine sd_iload_n hC dX2_loadOver_9 rfl (by decide) (?_ : Sd X 10 [(0, 12), (1, 0), (2, 0)] [0, 16, 11] _)
  refine sd_inv0 (τ := []) (τr := [16, 0]) (ci := 1) (q := (RX1, TX1, 12)) hC WG (M_X1_loadingHours _) rfl rfl rfl rfl  rfl rfl wl_4_152 wl_3_183 wl_3_184 wl_1_2 wl_3_185 hd_X1_loadingHours (by rw [e3]; decide) (by decide) dX2_loadOver_10 (?_ : Sd X 13 [(0, 12), (1, 0), (2, 0)] [0] _)
  refine sd_istore_n (Γ' := [(0, 12), (1, 0), (2, 0), (3, 0)]) hC dX2_loadOver_13 rfl (by rw [e2]; decide) (by decide) (?_ : Sd X 14 [(0, 12), (1, 0), (2, 0), (3, 0)] [] _)
  refine sd_aload_n hC 12 dX2_loadOver_14 rfl (by decide) (by decide) (?_ : Sd X 15 [(0, 12), (1, 0), (2, 0), (3, 0)] [12] _)
  refine sd_get hC (ci := 2) (j := 2) (C := RX2) (T := TX2) (N := 10) rfl rfl (by decide) in_X2 wl_2_40 dX2_loadOver_15 (?_ : Sd X 18 [(0, 12), (1, 0), (2, 0), (3, 0)] [200] _)
  refine sd_iconst hC dX2_loadOver_18 ⟨by decide, by decide⟩ (?_ : Sd X 19 [(0, 12), (1, 0), (2, 0), (3, 0)] [0, 200] _)
  refine sd_aaload (e := 100) hC (List.mem_of_getElem? (i := 7) rfl) rfl rfl dX2_loadOver_19 (?_ : Sd X 20 [(0, 12), (1, 0), (2, 0), (3, 0)] [100] _)
  refine sd_iload_n hC dX2_loadOver_20 rfl (by decide) (?_ : Sd X 21 [(0, 12), (1, 0), (2, 0), (3, 0)] [0, 100] _)
  refine sd_iconst hC dX2_loadOver_21 ⟨by decide, by decide⟩ (?_ : Sd X 22 [(0, 12), (1, 0), (2, 0), (3, 0)] [0, 0, 100] _)
  refine sd_iastore hC dX2_loadOver_22 (?_ : Sd X 23 [(0, 12), (1, 0), (2, 0), (3, 0)] [] _)
  refine sd_aload_n hC 12 dX2_loadOver_23 rfl (by decide) (by decide) (?_ : Sd X 24 [(0, 12), (1, 0), (2, 0), (3, 0)] [12] _)
  refine sd_get hC (ci := 2) (j := 2) (C := RX2) (T := TX2) (N := 10) rfl rfl (by decide) in_X2 wl_2_40 dX2_loadOver_24 (?_ : Sd X 27 [(0, 12), (1, 0), (2, 0), (3, 0)] [200] _)
  refine sd_iconst hC dX2_loadOver_27 ⟨by decide, by decide⟩ (?_ : Sd X 28 [(0, 12), (1, 0), (2, 0), (3, 0)] [0, 200] _)
  refine sd_aaload (e := 100) hC (List.mem_of_getElem? (i := 7) rfl) rfl rfl dX2_loadOver_28 (?_ : Sd X 29 [(0, 12), (1, 0), (2, 0), (3, 0)] [100] _)
  refine sd_iload_n hC dX2_loadOver_29 rfl (by decide) (?_ : Sd X 30 [(0, 12), (1, 0), (2, 0), (3, 0)] [0, 100] _)
  refine sd_iload_n hC dX2_loadOver_30 rfl (by decide) (?_ : Sd X 31 [(0, 12), (1, 0), (2, 0), (3, 0)] [0, 0, 100] _)
  refine sd_iastore hC dX2_loadOver_31 (?_ : Sd X 32 [(0, 12), (1, 0), (2, 0), (3, 0)] [] _)
  refine sd_aload_n hC 12 dX2_loadOver_32 rfl (by decide) (by decide) (?_ : Sd X 33 [(0, 12), (1, 0), (2, 0), (3, 0)] [12] _)
  refine sd_get hC (ci := 2) (j := 4) (C := RX2) (T := TX2) (N := 10) rfl rfl (by decide) in_X2 wl_2_44 dX2_loadOver_33 (?_ : Sd X 36 [(0, 12), (1, 0), (2, 0), (3, 0)] [100] _)
  refine sd_iload_n hC dX2_loadOver_36 rfl (by decide) (?_ : Sd X 37 [(0, 12), (1, 0), (2, 0), (3, 0)] [0, 100] _)
  refine sd_iload_n hC dX2_loadOver_37 rfl (by decide) (?_ : Sd X 38 [(0, 12), (1, 0), (2, 0), (3, 0)] [0, 0, 100] _)
  refine sd_iastore hC dX2_loadOver_38 (?_ : Sd X 39 [(0, 12), (1, 0), (2, 0), (3, 0)] [] _)
  refine sd_aload_n hC 12 dX2_loadOver_39 rfl (by decide) (by decide) (?_ : Sd X 40 [(0, 12), (1, 0), (2, 0), (3, 0)] [12] _)
  refine sd_get hC (ci := 2) (j := 5) (C := RX2) (T := TX2) (N := 10) rfl rfl (by decide) in_X2 wl_2_46 dX2_loadOver_40 (?_ : Sd X 43 [(0, 12), (1, 0), (2, 0), (3, 0)] [100] _)
  refine sd_iload_n hC dX2_loadOver_43 rfl (by decide) (?_ : Sd X 44 [(0, 12), (1, 0), (2, 0), (3, 0)] [0, 100] _)
  refine sd_dup2 hC (by decide) (by decide) dX2_loadOver_44 (?_ : Sd X 45 [(0, 12), (1, 0), (2, 0), (3, 0)] [0, 100, 0, 100] _)
  refine sd_iaload hC dX2_loadOver_45 (?_ : Sd X 46 [(0, 12), (1, 0), (2, 0), (3, 0)] [0, 0, 100] _)
  refine sd_aload_n hC 12 dX2_loadOver_46 rfl (by decide) (by decide) (?_ : Sd X 47 [(0, 12), (1, 0), (2, 0), (3, 0)] [12, 0, 0, 100] _)
  refine sd_get hC (ci := 2) (j := 8) (C := RX2) (T := TX2) (N := 10) rfl rfl (by decide) in_X2 wl_2_51 dX2_loadOver_47 (?_ : Sd X 50 [(0, 12), (1, 0), (2, 0), (3, 0)] [11, 0, 0, 100] _)
  refine sd_get hC (ci := 1) (j := 6) (C := RX1) (T := TX1) (N := 12) rfl rfl (by decide) in_X1 wl_1_106 dX2_loadOver_50 (?_ : Sd X 53 [(0, 12), (1, 0), (2, 0), (3, 0)] [200, 0, 0, 100] _)
  refine sd_iload_n hC dX2_loadOver_53 rfl (by decide) (?_ : Sd X 54 [(0, 12), (1, 0), (2, 0), (3, 0)] [0, 200, 0, 0, 100] _)
  refine sd_aaload (e := 100) hC (List.mem_of_getElem? (i := 7) rfl) rfl rfl dX2_loadOver_54 (?_ : Sd X 55 [(0, 12), (1, 0), (2, 0), (3, 0)] [100, 0, 0, 100] _)
  refine sd_iconst hC dX2_loadOver_55 ⟨by decide, by decide⟩ (?_ : Sd X 56 [(0, 12), (1, 0), (2, 0), (3, 0)] [0, 100, 0, 0, 100] _)
  refine sd_iaload hC dX2_loadOver_56 (?_ : Sd X 57 [(0, 12), (1, 0), (2, 0), (3, 0)] [0, 0, 0, 100] _)
  refine sd_iadd hC dX2_loadOver_57 (?_ : Sd X 58 [(0, 12), (1, 0), (2, 0), (3, 0)] [0, 0, 100] _)
  refine sd_iastore hC dX2_loadOver_58 (?_ : Sd X 59 [(0, 12), (1, 0), (2, 0), (3, 0)] [] _)
  refine sd_aload_n hC 12 dX2_loadOver_59 rfl (by decide) (by decide) (?_ : Sd X 60 [(0, 12), (1, 0), (2, 0), (3, 0)] [12] _)
  refine sd_get hC (ci := 2) (j := 6) (C := RX2) (T := TX2) (N := 10) rfl rfl (by decide) in_X2 wl_2_48 dX2_loadOver_60 (?_ : Sd X 63 [(0, 12), (1, 0), (2, 0), (3, 0)] [100] _)
  refine sd_iload_n hC dX2_loadOver_63 rfl (by decide) (?_ : Sd X 64 [(0, 12), (1, 0), (2, 0), (3, 0)] [0, 100] _)
  refine sd_dup2 hC (by decide) (by decide) dX2_loadOver_64 (?_ : Sd X 65 [(0, 12), (1, 0), (2, 0), (3, 0)] [0, 100, 0, 100] _)
  refine sd_iaload hC dX2_loadOver_65 (?_ : Sd X 66 [(0, 12), (1, 0), (2, 0), (3, 0)] [0, 0, 100] _)
  refine sd_iload_n hC dX2_loadOver_66 rfl (by decide) (?_ : Sd X 67 [(0, 12), (1, 0), (2, 0), (3, 0)] [0, 0, 0, 100] _)
  refine sd_aload_n hC 12 dX2_loadOver_67 rfl (by decide) (by decide) (?_ : Sd X 68 [(0, 12), (1, 0), (2, 0), (3, 0)] [12, 0, 0, 0, 100] _)
  refine sd_get hC (ci := 2) (j := 8) (C := RX2) (T := TX2) (N := 10) rfl rfl (by decide) in_X2 wl_2_51 dX2_loadOver_68 (?_ : Sd X 71 [(0, 12), (1, 0), (2, 0), (3, 0)] [11, 0, 0, 0, 100] _)
  refine sd_get hC (ci := 1) (j := 6) (C := RX1) (T := TX1) (N := 12) rfl rfl (by decide) in_X1 wl_1_106 dX2_loadOver_71 (?_ : Sd X 74 [(0, 12), (1, 0), (2, 0), (3, 0)] [200, 0, 0, 0, 100] _)
  refine sd_iload_n hC dX2_loadOver_74 rfl (by decide) (?_ : Sd X 75 [(0, 12), (1, 0), (2, 0), (3, 0)] [0, 200, 0, 0, 0, 100] _)
  refine sd_aaload (e := 100) hC (List.mem_of_getElem? (i := 7) rfl) rfl rfl dX2_loadOver_75 (?_ : Sd X 76 [(0, 12), (1, 0), (2, 0), (3, 0)] [100, 0, 0, 0, 100] _)
  refine sd_iconst hC dX2_loadOver_76 ⟨by decide, by decide⟩ (?_ : Sd X 77 [(0, 12), (1, 0), (2, 0), (3, 0)] [0, 100, 0, 0, 0, 100] _)
  refine sd_iaload hC dX2_loadOver_77 (?_ : Sd X 78 [(0, 12), (1, 0), (2, 0), (3, 0)] [0, 0, 0, 0, 100] _)
  refine sd_imul hC dX2_loadOver_78 (?_ : Sd X 79 [(0, 12), (1, 0), (2, 0), (3, 0)] [0, 0, 0, 100] _)
  refine sd_iadd hC dX2_loadOver_79 (?_ : Sd X 80 [(0, 12), (1, 0), (2, 0), (3, 0)] [0, 0, 100] _)
  refine sd_iastore hC dX2_loadOver_80 (?_ : Sd X 81 [(0, 12), (1, 0), (2, 0), (3, 0)] [] _)
  exact sd_return hC hT dX2_loadOver_81
theorem wl_2_50 : Cond.fieldLink RX2 39 "NarrowRings$Day" "foremost" "[I" ∈ WALL := tb2 (List.mem_of_getElem? (i := 50) rfl) rfl
theorem wl_1_85 : Cond.fieldLink RX2 118 "NarrowRings$City" "gates" "I" ∈ WALL := tb1 (List.mem_of_getElem? (i := 85) rfl) rfl
theorem wl_4_143 : Cond.methodLink RX2 119 yX2_loadOver ∈ WALL := tb4 (List.mem_of_getElem? (i := 143) rfl) rfl
theorem wl_4_145 : Cond.instanceMethod yX2_loadOver ∈ WALL := tb4 (List.mem_of_getElem? (i := 145) rfl) rfl
theorem wp_52 : Cond.selects RX2 yX2_loadOver yX2_loadOver ∈ WALL := tbS (List.mem_of_getElem? (i := 52) rfl)
theorem wl_4_146 : Cond.code yX2_loadOver cX2_loadOver 4 none ∈ WALL := tb4 (List.mem_of_getElem? (i := 146) rfl) rfl
theorem hd_X2_serveGates : yX2_serveGates.cls ≠ "java/lang/invoke/MethodHandle" ∧ yX2_serveGates.cls ≠ "java/lang/invoke/VarHandle" ∧ (parseMethodDescriptor yX2_serveGates.desc).map (fun d => d.parameters.length) = some 0 := by decide +kernel
set_option maxRecDepth 100000 in
set_option maxHeartbeats 4000000 in
theorem M_X2_serveGates (l : Launch) : Mt l yX2_serveGates (Cond.code yX2_serveGates cX2_serveGates 3 none :: WALL) { frames := 3, cells := 0, slots := 0, locals := 67 } [12] none T_X2_serveGates := by
  refine Mt.mk (B := E_X2_serveGates) (by decide +kernel) (by decide) (fun _ _ _ hh => hh) ?_
  intro X Q e1 e2 e3 hC hN hT
  subst e1
  have hC : CF X cX2_serveGates RX2 WALL := hC
  have S_139 : ∀ (k96 : tK), Sd X 96 [(0, 12), (1, 0)] [] k96 → Sd X 139 [(0, 12), (1, 0)] [] (B_X2_serveGates_139 Q k96) := by
    intro k96 h96
    unfold B_X2_serveGates_139
    refine sd_iinc (Γ' := [(0, 12), (1, 0)]) hC dX2_serveGates_139 (by decide) (by rw [e2]; decide) (by decide) (?_ : Sd X 142 [(0, 12), (1, 0)] [] _)
    refine sd_goto (tgt := 96) hC dX2_serveGates_142 rfl (?_ : Sd X 96 [(0, 12), (1, 0)] [] _)
    exact Sd.weak (by decide) h96
  have S_96 : Sd X 96 [(0, 12), (1, 0)] [] (L_X2_serveGates_96 Q) := by
    unfold L_X2_serveGates_96
    refine Sd.loop (fun k96 h96 => ?_)
    refine sd_iload_n hC dX2_serveGates_96 rfl (by decide) (?_ : Sd X 97 [(0, 12), (1, 0)] [0] _)
    refine sd_aload_n hC 12 dX2_serveGates_97 rfl (by decide) (by decide) (?_ : Sd X 98 [(0, 12), (1, 0)] [12, 0] _)
    refine sd_get hC (ci := 2) (j := 8) (C := RX2) (T := TX2) (N := 10) rfl rfl (by decide) in_X2 wl_2_51 dX2_serveGates_98 (?_ : Sd X 101 [(0, 12), (1, 0)] [11, 0] _)
    refine sd_get hC (ci := 1) (j := 1) (C := RX1) (T := TX1) (N := 12) rfl rfl (by decide) in_X1 wl_1_85 dX2_serveGates_101 (?_ : Sd X 104 [(0, 12), (1, 0)] [0, 0] _)
    refine sd_icmp_ge (tgt := 145) hC dX2_serveGates_104 rfl (?_ : Sd X 145 [(0, 12), (1, 0)] [] _) (?_ : Sd X 107 [(0, 12), (1, 0)] [] _)
    · exact sd_return hC hT dX2_serveGates_145
    · refine sd_aload_n hC 12 dX2_serveGates_107 rfl (by decide) (by decide) (?_ : Sd X 108 [(0, 12), (1, 0)] [12] _)
      refine sd_get hC (ci := 2) (j := 7) (C := RX2) (T := TX2) (N := 10) rfl rfl (by decide) in_X2 wl_2_50 dX2_serveGates_108 (?_ : Sd X 111 [(0, 12), (1, 0)] [100] _)
      refine sd_iload_n hC dX2_serveGates_111 rfl (by decide) (?_ : Sd X 112 [(0, 12), (1, 0)] [0, 100] _)
      refine sd_iaload hC dX2_serveGates_112 (?_ : Sd X 113 [(0, 12), (1, 0)] [0] _)
      refine sd_iconst hC dX2_serveGates_113 ⟨by decide, by decide⟩ (?_ : Sd X 114 [(0, 12), (1, 0)] [0, 0] _)
      refine sd_icmp_eq (tgt := 139) hC dX2_serveGates_114 rfl (?_ : Sd X 139 [(0, 12), (1, 0)] [] _) (?_ : Sd X 117 [(0, 12), (1, 0)] [] _)
      · exact Sd.weak (by decide) (S_139 k96 h96)
      · refine sd_aload_n hC 12 dX2_serveGates_117 rfl (by decide) (by decide) (?_ : Sd X 118 [(0, 12), (1, 0)] [12] _)
        refine sd_get hC (ci := 2) (j := 4) (C := RX2) (T := TX2) (N := 10) rfl rfl (by decide) in_X2 wl_2_44 dX2_serveGates_118 (?_ : Sd X 121 [(0, 12), (1, 0)] [100] _)
        refine sd_iload_n hC dX2_serveGates_121 rfl (by decide) (?_ : Sd X 122 [(0, 12), (1, 0)] [0, 100] _)
        refine sd_iaload hC dX2_serveGates_122 (?_ : Sd X 123 [(0, 12), (1, 0)] [0] _)
        refine sd_bipush hC dX2_serveGates_123 (by decide) (?_ : Sd X 125 [(0, 12), (1, 0)] [0, 0] _)
        refine sd_icmp_ne (tgt := 139) hC dX2_serveGates_125 rfl (?_ : Sd X 139 [(0, 12), (1, 0)] [] _) (?_ : Sd X 128 [(0, 12), (1, 0)] [] _)
        · exact Sd.weak (by decide) (S_139 k96 h96)
        · refine sd_aload_n hC 12 dX2_serveGates_128 rfl (by decide) (by decide) (?_ : Sd X 129 [(0, 12), (1, 0)] [12] _)
          refine sd_aload_n hC 12 dX2_serveGates_129 rfl (by decide) (by decide) (?_ : Sd X 130 [(0, 12), (1, 0)] [12, 12] _)
          refine sd_get hC (ci := 2) (j := 7) (C := RX2) (T := TX2) (N := 10) rfl rfl (by decide) in_X2 wl_2_50 dX2_serveGates_130 (?_ : Sd X 133 [(0, 12), (1, 0)] [100, 12] _)
          refine sd_iload_n hC dX2_serveGates_133 rfl (by decide) (?_ : Sd X 134 [(0, 12), (1, 0)] [0, 100, 12] _)
          refine sd_iaload hC dX2_serveGates_134 (?_ : Sd X 135 [(0, 12), (1, 0)] [0, 12] _)
          refine sd_iload_n hC dX2_serveGates_135 rfl (by decide) (?_ : Sd X 136 [(0, 12), (1, 0)] [0, 0, 12] _)
          refine sd_inv0v (τ := []) (τr := [0, 0]) (ci := 2) (q := (RX2, TX2, 10)) hC WG (M_X2_loadOver _) rfl rfl rfl rfl  rfl rfl wl_4_143 wl_4_145 wp_52 wl_1_7 wl_4_146 hd_X2_loadOver (by rw [e3]; decide) (by decide) dX2_serveGates_136 (?_ : Sd X 139 [(0, 12), (1, 0)] [] _)
          exact Sd.weak (by decide) (S_139 k96 h96)
  have S_88 : ∀ (k10 : tK), Sd X 10 [(0, 12), (1, 0)] [] k10 → Sd X 88 [(0, 12), (1, 0), (2, 0)] [] (B_X2_serveGates_88 Q k10) := by
    intro k10 h10
    unfold B_X2_serveGates_88
    refine sd_iinc (Γ' := [(0, 12), (1, 0), (2, 0)]) hC dX2_serveGates_88 (by decide) (by rw [e2]; decide) (by decide) (?_ : Sd X 91 [(0, 12), (1, 0), (2, 0)] [] _)
    refine sd_goto (tgt := 10) hC dX2_serveGates_91 rfl (?_ : Sd X 10 [(0, 12), (1, 0), (2, 0)] [] _)
    exact Sd.weak (by decide) h10
  have S_81 : ∀ (k10 : tK), Sd X 10 [(0, 12), (1, 0)] [] k10 → Sd X 81 [(0, 12), (1, 0), (2, 0)] [] (B_X2_serveGates_81 Q k10) := by
    intro k10 h10
    unfold B_X2_serveGates_81
    refine sd_aload_n hC 12 dX2_serveGates_81 rfl (by decide) (by decide) (?_ : Sd X 82 [(0, 12), (1, 0), (2, 0)] [12] _)
    refine sd_get hC (ci := 2) (j := 7) (C := RX2) (T := TX2) (N := 10) rfl rfl (by decide) in_X2 wl_2_50 dX2_serveGates_82 (?_ : Sd X 85 [(0, 12), (1, 0), (2, 0)] [100] _)
    refine sd_iload_n hC dX2_serveGates_85 rfl (by decide) (?_ : Sd X 86 [(0, 12), (1, 0), (2, 0)] [0, 100] _)
    refine sd_iload_n hC dX2_serveGates_86 rfl (by decide) (?_ : Sd X 87 [(0, 12), (1, 0), (2, 0)] [0, 0, 100] _)
    refine sd_iastore hC dX2_serveGates_87 (?_ : Sd X 88 [(0, 12), (1, 0), (2, 0)] [] _)
    exact Sd.weak (by decide) (S_88 k10 h10)
  have S_39 : ∀ (k10 : tK), Sd X 10 [(0, 12), (1, 0)] [] k10 → Sd X 39 [(0, 12), (1, 0)] [0] (B_X2_serveGates_39 Q k10) := by
    intro k10 h10
    unfold B_X2_serveGates_39
    refine sd_istore_n (Γ' := [(0, 12), (1, 0), (2, 0)]) hC dX2_serveGates_39 rfl (by rw [e2]; decide) (by decide) (?_ : Sd X 40 [(0, 12), (1, 0), (2, 0)] [] _)
    refine sd_iload_n hC dX2_serveGates_40 rfl (by decide) (?_ : Sd X 41 [(0, 12), (1, 0), (2, 0)] [0] _)
    refine sd_iconst hC dX2_serveGates_41 ⟨by decide, by decide⟩ (?_ : Sd X 42 [(0, 12), (1, 0), (2, 0)] [0, 0] _)
    refine sd_icmp_eq (tgt := 88) hC dX2_serveGates_42 rfl (?_ : Sd X 88 [(0, 12), (1, 0), (2, 0)] [] _) (?_ : Sd X 45 [(0, 12), (1, 0), (2, 0)] [] _)
    · exact Sd.weak (by decide) (S_88 k10 h10)
    · refine sd_aload_n hC 12 dX2_serveGates_45 rfl (by decide) (by decide) (?_ : Sd X 46 [(0, 12), (1, 0), (2, 0)] [12] _)
      refine sd_get hC (ci := 2) (j := 7) (C := RX2) (T := TX2) (N := 10) rfl rfl (by decide) in_X2 wl_2_50 dX2_serveGates_46 (?_ : Sd X 49 [(0, 12), (1, 0), (2, 0)] [100] _)
      refine sd_iload_n hC dX2_serveGates_49 rfl (by decide) (?_ : Sd X 50 [(0, 12), (1, 0), (2, 0)] [0, 100] _)
      refine sd_iaload hC dX2_serveGates_50 (?_ : Sd X 51 [(0, 12), (1, 0), (2, 0)] [0] _)
      refine sd_iconst hC dX2_serveGates_51 ⟨by decide, by decide⟩ (?_ : Sd X 52 [(0, 12), (1, 0), (2, 0)] [0, 0] _)
      refine sd_icmp_eq (tgt := 81) hC dX2_serveGates_52 rfl (?_ : Sd X 81 [(0, 12), (1, 0), (2, 0)] [] _) (?_ : Sd X 55 [(0, 12), (1, 0), (2, 0)] [] _)
      · exact Sd.weak (by decide) (S_81 k10 h10)
      · refine sd_aload_n hC 12 dX2_serveGates_55 rfl (by decide) (by decide) (?_ : Sd X 56 [(0, 12), (1, 0), (2, 0)] [12] _)
        refine sd_get hC (ci := 2) (j := 2) (C := RX2) (T := TX2) (N := 10) rfl rfl (by decide) in_X2 wl_2_40 dX2_serveGates_56 (?_ : Sd X 59 [(0, 12), (1, 0), (2, 0)] [200] _)
        refine sd_bipush hC dX2_serveGates_59 (by decide) (?_ : Sd X 61 [(0, 12), (1, 0), (2, 0)] [0, 200] _)
        refine sd_aaload (e := 100) hC (List.mem_of_getElem? (i := 7) rfl) rfl rfl dX2_serveGates_61 (?_ : Sd X 62 [(0, 12), (1, 0), (2, 0)] [100] _)
        refine sd_iload_n hC dX2_serveGates_62 rfl (by decide) (?_ : Sd X 63 [(0, 12), (1, 0), (2, 0)] [0, 100] _)
        refine sd_iaload hC dX2_serveGates_63 (?_ : Sd X 64 [(0, 12), (1, 0), (2, 0)] [0] _)
        refine sd_aload_n hC 12 dX2_serveGates_64 rfl (by decide) (by decide) (?_ : Sd X 65 [(0, 12), (1, 0), (2, 0)] [12, 0] _)
        refine sd_get hC (ci := 2) (j := 2) (C := RX2) (T := TX2) (N := 10) rfl rfl (by decide) in_X2 wl_2_40 dX2_serveGates_65 (?_ : Sd X 68 [(0, 12), (1, 0), (2, 0)] [200, 0] _)
        refine sd_bipush hC dX2_serveGates_68 (by decide) (?_ : Sd X 70 [(0, 12), (1, 0), (2, 0)] [0, 200, 0] _)
        refine sd_aaload (e := 100) hC (List.mem_of_getElem? (i := 7) rfl) rfl rfl dX2_serveGates_70 (?_ : Sd X 71 [(0, 12), (1, 0), (2, 0)] [100, 0] _)
        refine sd_aload_n hC 12 dX2_serveGates_71 rfl (by decide) (by decide) (?_ : Sd X 72 [(0, 12), (1, 0), (2, 0)] [12, 100, 0] _)
        refine sd_get hC (ci := 2) (j := 7) (C := RX2) (T := TX2) (N := 10) rfl rfl (by decide) in_X2 wl_2_50 dX2_serveGates_72 (?_ : Sd X 75 [(0, 12), (1, 0), (2, 0)] [100, 100, 0] _)
        refine sd_iload_n hC dX2_serveGates_75 rfl (by decide) (?_ : Sd X 76 [(0, 12), (1, 0), (2, 0)] [0, 100, 100, 0] _)
        refine sd_iaload hC dX2_serveGates_76 (?_ : Sd X 77 [(0, 12), (1, 0), (2, 0)] [0, 100, 0] _)
        refine sd_iaload hC dX2_serveGates_77 (?_ : Sd X 78 [(0, 12), (1, 0), (2, 0)] [0, 0] _)
        refine sd_icmp_ge (tgt := 88) hC dX2_serveGates_78 rfl (?_ : Sd X 88 [(0, 12), (1, 0), (2, 0)] [] _) (?_ : Sd X 81 [(0, 12), (1, 0), (2, 0)] [] _)
        · exact Sd.weak (by decide) (S_88 k10 h10)
        · exact Sd.weak (by decide) (S_81 k10 h10)
  have S_10 : Sd X 10 [(0, 12), (1, 0)] [] (L_X2_serveGates_10 Q) := by
    unfold L_X2_serveGates_10
    refine Sd.loop (fun k10 h10 => ?_)
    refine sd_iload_n hC dX2_serveGates_10 rfl (by decide) (?_ : Sd X 11 [(0, 12), (1, 0)] [0] _)
    refine sd_aload_n hC 12 dX2_serveGates_11 rfl (by decide) (by decide) (?_ : Sd X 12 [(0, 12), (1, 0)] [12, 0] _)
    refine sd_get hC (ci := 2) (j := 1) (C := RX2) (T := TX2) (N := 10) rfl rfl (by decide) in_X2 wl_2_38 dX2_serveGates_12 (?_ : Sd X 15 [(0, 12), (1, 0)] [0, 0] _)
    refine sd_icmp_ge (tgt := 94) hC dX2_serveGates_15 rfl (?_ : Sd X 94 [(0, 12), (1, 0)] [] _) (?_ : Sd X 18 [(0, 12), (1, 0)] [] _)
    · refine sd_iconst hC dX2_serveGates_94 ⟨by decide, by decide⟩ (?_ : Sd X 95 [(0, 12), (1, 0)] [0] _)
      refine sd_istore_n (Γ' := [(0, 12), (1, 0)]) hC dX2_serveGates_95 rfl (by rw [e2]; decide) (by decide) (?_ : Sd X 96 [(0, 12), (1, 0)] [] _)
      exact Sd.weak (by decide) (S_96)
    · refine sd_aload_n hC 12 dX2_serveGates_18 rfl (by decide) (by decide) (?_ : Sd X 19 [(0, 12), (1, 0)] [12] _)
      refine sd_get hC (ci := 2) (j := 2) (C := RX2) (T := TX2) (N := 10) rfl rfl (by decide) in_X2 wl_2_40 dX2_serveGates_19 (?_ : Sd X 22 [(0, 12), (1, 0)] [200] _)
      refine sd_iconst hC dX2_serveGates_22 ⟨by decide, by decide⟩ (?_ : Sd X 23 [(0, 12), (1, 0)] [0, 200] _)
      refine sd_aaload (e := 100) hC (List.mem_of_getElem? (i := 7) rfl) rfl rfl dX2_serveGates_23 (?_ : Sd X 24 [(0, 12), (1, 0)] [100] _)
      refine sd_iload_n hC dX2_serveGates_24 rfl (by decide) (?_ : Sd X 25 [(0, 12), (1, 0)] [0, 100] _)
      refine sd_iaload hC dX2_serveGates_25 (?_ : Sd X 26 [(0, 12), (1, 0)] [0] _)
      refine sd_iconst hC dX2_serveGates_26 ⟨by decide, by decide⟩ (?_ : Sd X 27 [(0, 12), (1, 0)] [0, 0] _)
      refine sd_icmp_ne (tgt := 38) hC dX2_serveGates_27 rfl (?_ : Sd X 38 [(0, 12), (1, 0)] [] _) (?_ : Sd X 30 [(0, 12), (1, 0)] [] _)
      · refine sd_iconst hC dX2_serveGates_38 ⟨by decide, by decide⟩ (?_ : Sd X 39 [(0, 12), (1, 0)] [0] _)
        exact Sd.weak (by decide) (S_39 k10 h10)
      · refine sd_aload_n hC 12 dX2_serveGates_30 rfl (by decide) (by decide) (?_ : Sd X 31 [(0, 12), (1, 0)] [12] _)
        refine sd_iload_n hC dX2_serveGates_31 rfl (by decide) (?_ : Sd X 32 [(0, 12), (1, 0)] [0, 12] _)
        refine sd_inv0 (τ := []) (τr := [0]) (ci := 2) (q := (RX2, TX2, 10)) hC WG (M_X2_gateAhead _) rfl rfl rfl rfl  rfl rfl wl_4_127 wl_4_129 wp_48 wl_1_7 wl_4_130 hd_X2_gateAhead (by rw [e3]; decide) (by decide) dX2_serveGates_32 (?_ : Sd X 35 [(0, 12), (1, 0)] [0] _)
        refine sd_goto (tgt := 39) hC dX2_serveGates_35 rfl (?_ : Sd X 39 [(0, 12), (1, 0)] [0] _)
        exact Sd.weak (by decide) (S_39 k10 h10)
  refine (?_ : Sd X 0 [(0, 12)] [] (E_X2_serveGates Q))
  unfold E_X2_serveGates
  refine sd_aload_n hC 12 dX2_serveGates_0 rfl (by decide) (by decide) (?_ : Sd X 1 [(0, 12)] [12] _)
  refine sd_get hC (ci := 2) (j := 7) (C := RX2) (T := TX2) (N := 10) rfl rfl (by decide) in_X2 wl_2_50 dX2_serveGates_1 (?_ : Sd X 4 [(0, 12)] [100] _)
  refine sd_iconst hC dX2_serveGates_4 ⟨by decide, by decide⟩ (?_ : Sd X 5 [(0, 12)] [0, 100] _)
  refine sd_invsv (τ := []) (τs := [100, 0]) hC false "" WG (M_J7_fill_53178 _) rfl rfl rfl rfl wl_3_220 wl_2_188 wl_1_11 wl_2_189 hd_J7_fill_53178 (by rw [e3]; decide) (by decide) dX2_serveGates_5 (?_ : Sd X 8 [(0, 12)] [] _)
  refine sd_iconst hC dX2_serveGates_8 ⟨by decide, by decide⟩ (?_ : Sd X 9 [(0, 12)] [0] _)
  refine sd_istore_n (Γ' := [(0, 12), (1, 0)]) hC dX2_serveGates_9 rfl (by rw [e2]; decide) (by decide) (?_ : Sd X 10 [(0, 12), (1, 0)] [] _)
  exact Sd.weak (by decide) (S_10)
theorem hd_X8_apart : yX8_apart.cls ≠ "java/lang/invoke/MethodHandle" ∧ yX8_apart.cls ≠ "java/lang/invoke/VarHandle" ∧ (parseMethodDescriptor yX8_apart.desc).map (fun d => d.parameters.length) = some 2 := by decide +kernel
set_option maxRecDepth 100000 in
set_option maxHeartbeats 4000000 in
theorem M_X8_apart (l : Launch) : Mt l yX8_apart (Cond.code yX8_apart cX8_apart 3 (some .int) :: WALL) { frames := 0, cells := 0, slots := 0, locals := 0 } [0, 0] (some 0) T_X8_apart := by
  refine Mt.mk (B := E_X8_apart) (by decide +kernel) (by decide) (fun _ _ _ hh => hh) ?_
  intro X Q e1 e2 e3 hC hN hT
  subst e1
  have hC : CF X cX8_apart RX8 WALL := hC
  have S_31 : Sd X 31 [(0, 0), (1, 0), (2, 0)] [0] (B_X8_apart_31 Q) := by
    unfold B_X8_apart_31
    exact sd_ireturn hC hT dX8_apart_31
  have S_14 : Sd X 14 [(0, 0), (1, 0)] [0] (B_X8_apart_14 Q) := by
    unfold B_X8_apart_14
    refine sd_istore_n (Γ' := [(0, 0), (1, 0), (2, 0)]) hC dX8_apart_14 rfl (by rw [e2]; decide) (by decide) (?_ : Sd X 15 [(0, 0), (1, 0), (2, 0)] [] _)
    refine sd_iload_n hC dX8_apart_15 rfl (by decide) (?_ : Sd X 16 [(0, 0), (1, 0), (2, 0)] [0] _)
    refine sd_bipush hC dX8_apart_16 (by decide) (?_ : Sd X 18 [(0, 0), (1, 0), (2, 0)] [0, 0] _)
    refine sd_iload_n hC dX8_apart_18 rfl (by decide) (?_ : Sd X 19 [(0, 0), (1, 0), (2, 0)] [0, 0, 0] _)
    refine sd_isub hC dX8_apart_19 (?_ : Sd X 20 [(0, 0), (1, 0), (2, 0)] [0, 0] _)
    refine sd_icmp_gt (tgt := 27) hC dX8_apart_20 rfl (?_ : Sd X 27 [(0, 0), (1, 0), (2, 0)] [] _) (?_ : Sd X 23 [(0, 0), (1, 0), (2, 0)] [] _)
    · refine sd_bipush hC dX8_apart_27 (by decide) (?_ : Sd X 29 [(0, 0), (1, 0), (2, 0)] [0] _)
      refine sd_iload_n hC dX8_apart_29 rfl (by decide) (?_ : Sd X 30 [(0, 0), (1, 0), (2, 0)] [0, 0] _)
      refine sd_isub hC dX8_apart_30 (?_ : Sd X 31 [(0, 0), (1, 0), (2, 0)] [0] _)
      exact Sd.weak (by decide) (S_31)
    · refine sd_iload_n hC dX8_apart_23 rfl (by decide) (?_ : Sd X 24 [(0, 0), (1, 0), (2, 0)] [0] _)
      refine sd_goto (tgt := 31) hC dX8_apart_24 rfl (?_ : Sd X 31 [(0, 0), (1, 0), (2, 0)] [0] _)
      exact Sd.weak (by decide) (S_31)
  refine (?_ : Sd X 0 [(0, 0), (1, 0)] [] (E_X8_apart Q))
  unfold E_X8_apart
  refine sd_iload_n hC dX8_apart_0 rfl (by decide) (?_ : Sd X 1 [(0, 0), (1, 0)] [0] _)
  refine sd_iload_n hC dX8_apart_1 rfl (by decide) (?_ : Sd X 2 [(0, 0), (1, 0)] [0, 0] _)
  refine sd_icmp_ge (tgt := 11) hC dX8_apart_2 rfl (?_ : Sd X 11 [(0, 0), (1, 0)] [] _) (?_ : Sd X 5 [(0, 0), (1, 0)] [] _)
  · refine sd_iload_n hC dX8_apart_11 rfl (by decide) (?_ : Sd X 12 [(0, 0), (1, 0)] [0] _)
    refine sd_iload_n hC dX8_apart_12 rfl (by decide) (?_ : Sd X 13 [(0, 0), (1, 0)] [0, 0] _)
    refine sd_isub hC dX8_apart_13 (?_ : Sd X 14 [(0, 0), (1, 0)] [0] _)
    exact Sd.weak (by decide) (S_14)
  · refine sd_iload_n hC dX8_apart_5 rfl (by decide) (?_ : Sd X 6 [(0, 0), (1, 0)] [0] _)
    refine sd_iload_n hC dX8_apart_6 rfl (by decide) (?_ : Sd X 7 [(0, 0), (1, 0)] [0, 0] _)
    refine sd_isub hC dX8_apart_7 (?_ : Sd X 8 [(0, 0), (1, 0)] [0] _)
    refine sd_goto (tgt := 14) hC dX8_apart_8 rfl (?_ : Sd X 14 [(0, 0), (1, 0)] [0] _)
    exact Sd.weak (by decide) (S_14)
theorem wl_1_89 : Cond.fieldLink RX2 138 "NarrowRings$City" "carts" "I" ∈ WALL := tb1 (List.mem_of_getElem? (i := 89) rfl) rfl
theorem wl_4_162 : Cond.methodLink RX2 141 yX1_cartBears ∈ WALL := tb4 (List.mem_of_getElem? (i := 162) rfl) rfl
theorem hd_X2_takeCart : yX2_takeCart.cls ≠ "java/lang/invoke/MethodHandle" ∧ yX2_takeCart.cls ≠ "java/lang/invoke/VarHandle" ∧ (parseMethodDescriptor yX2_takeCart.desc).map (fun d => d.parameters.length) = some 2 := by decide +kernel
set_option maxRecDepth 100000 in
set_option maxHeartbeats 4000000 in
theorem M_X2_takeCart (l : Launch) : Mt l yX2_takeCart (Cond.code yX2_takeCart cX2_takeCart 5 none :: WALL) { frames := 2, cells := 0, slots := 0, locals := 44 } [12, 0, 0] none T_X2_takeCart := by
  refine Mt.mk (B := E_X2_takeCart) (by decide +kernel) (by decide) (fun _ _ _ hh => hh) ?_
  intro X Q e1 e2 e3 hC hN hT
  subst e1
  have hC : CF X cX2_takeCart RX2 WALL := hC
  have S_92 : ∀ (k9 : tK), Sd X 9 [(0, 12), (1, 0), (2, 0), (3, 16), (4, 0)] [] k9 → Sd X 92 [(0, 12), (1, 0), (2, 0), (3, 16), (4, 0)] [] (B_X2_takeCart_92 Q k9) := by
    intro k9 h9
    unfold B_X2_takeCart_92
    refine sd_iinc (Γ' := [(0, 12), (1, 0), (2, 0), (3, 16), (4, 0)]) hC dX2_takeCart_92 (by decide) (by rw [e2]; decide) (by decide) (?_ : Sd X 95 [(0, 12), (1, 0), (2, 0), (3, 16), (4, 0)] [] _)
    refine sd_goto (tgt := 9) hC dX2_takeCart_95 rfl (?_ : Sd X 9 [(0, 12), (1, 0), (2, 0), (3, 16), (4, 0)] [] _)
    exact Sd.weak (by decide) h9
  have S_9 : Sd X 9 [(0, 12), (1, 0), (2, 0), (3, 16), (4, 0)] [] (L_X2_takeCart_9 Q) := by
    unfold L_X2_takeCart_9
    refine Sd.loop (fun k9 h9 => ?_)
    refine sd_iload hC dX2_takeCart_9 (by decide) (?_ : Sd X 11 [(0, 12), (1, 0), (2, 0), (3, 16), (4, 0)] [0] _)
    refine sd_aload_n hC 12 dX2_takeCart_11 rfl (by decide) (by decide) (?_ : Sd X 12 [(0, 12), (1, 0), (2, 0), (3, 16), (4, 0)] [12, 0] _)
    refine sd_get hC (ci := 2) (j := 8) (C := RX2) (T := TX2) (N := 10) rfl rfl (by decide) in_X2 wl_2_51 dX2_takeCart_12 (?_ : Sd X 15 [(0, 12), (1, 0), (2, 0), (3, 16), (4, 0)] [11, 0] _)
    refine sd_get hC (ci := 1) (j := 2) (C := RX1) (T := TX1) (N := 12) rfl rfl (by decide) in_X1 wl_1_89 dX2_takeCart_15 (?_ : Sd X 18 [(0, 12), (1, 0), (2, 0), (3, 16), (4, 0)] [0, 0] _)
    refine sd_icmp_ge (tgt := 98) hC dX2_takeCart_18 rfl (?_ : Sd X 98 [(0, 12), (1, 0), (2, 0), (3, 16), (4, 0)] [] _) (?_ : Sd X 21 [(0, 12), (1, 0), (2, 0), (3, 16), (4, 0)] [] _)
    · exact sd_return hC hT dX2_takeCart_98
    · refine sd_aload_n hC 12 dX2_takeCart_21 rfl (by decide) (by decide) (?_ : Sd X 22 [(0, 12), (1, 0), (2, 0), (3, 16), (4, 0)] [12] _)
      refine sd_get hC (ci := 2) (j := 3) (C := RX2) (T := TX2) (N := 10) rfl rfl (by decide) in_X2 wl_2_42 dX2_takeCart_22 (?_ : Sd X 25 [(0, 12), (1, 0), (2, 0), (3, 16), (4, 0)] [100] _)
      refine sd_iload hC dX2_takeCart_25 (by decide) (?_ : Sd X 27 [(0, 12), (1, 0), (2, 0), (3, 16), (4, 0)] [0, 100] _)
      refine sd_iaload hC dX2_takeCart_27 (?_ : Sd X 28 [(0, 12), (1, 0), (2, 0), (3, 16), (4, 0)] [0] _)
      refine sd_bipush hC dX2_takeCart_28 (by decide) (?_ : Sd X 30 [(0, 12), (1, 0), (2, 0), (3, 16), (4, 0)] [0, 0] _)
      refine sd_icmp_ne (tgt := 92) hC dX2_takeCart_30 rfl (?_ : Sd X 92 [(0, 12), (1, 0), (2, 0), (3, 16), (4, 0)] [] _) (?_ : Sd X 33 [(0, 12), (1, 0), (2, 0), (3, 16), (4, 0)] [] _)
      · exact Sd.weak (by decide) (S_92 k9 h9)
      · refine sd_aload_n hC 12 dX2_takeCart_33 rfl (by decide) (by decide) (?_ : Sd X 34 [(0, 12), (1, 0), (2, 0), (3, 16), (4, 0)] [12] _)
        refine sd_get hC (ci := 2) (j := 8) (C := RX2) (T := TX2) (N := 10) rfl rfl (by decide) in_X2 wl_2_51 dX2_takeCart_34 (?_ : Sd X 37 [(0, 12), (1, 0), (2, 0), (3, 16), (4, 0)] [11] _)
        refine sd_aload_n hC 16 dX2_takeCart_37 rfl (by decide) (by decide) (?_ : Sd X 38 [(0, 12), (1, 0), (2, 0), (3, 16), (4, 0)] [16, 11] _)
        refine sd_iload hC dX2_takeCart_38 (by decide) (?_ : Sd X 40 [(0, 12), (1, 0), (2, 0), (3, 16), (4, 0)] [0, 16, 11] _)
        refine sd_aload_n hC 12 dX2_takeCart_40 rfl (by decide) (by decide) (?_ : Sd X 41 [(0, 12), (1, 0), (2, 0), (3, 16), (4, 0)] [12, 0, 16, 11] _)
        refine sd_get hC (ci := 2) (j := 2) (C := RX2) (T := TX2) (N := 10) rfl rfl (by decide) in_X2 wl_2_40 dX2_takeCart_41 (?_ : Sd X 44 [(0, 12), (1, 0), (2, 0), (3, 16), (4, 0)] [200, 0, 16, 11] _)
        refine sd_iconst hC dX2_takeCart_44 ⟨by decide, by decide⟩ (?_ : Sd X 45 [(0, 12), (1, 0), (2, 0), (3, 16), (4, 0)] [0, 200, 0, 16, 11] _)
        refine sd_aaload (e := 100) hC (List.mem_of_getElem? (i := 7) rfl) rfl rfl dX2_takeCart_45 (?_ : Sd X 46 [(0, 12), (1, 0), (2, 0), (3, 16), (4, 0)] [100, 0, 16, 11] _)
        refine sd_iload_n hC dX2_takeCart_46 rfl (by decide) (?_ : Sd X 47 [(0, 12), (1, 0), (2, 0), (3, 16), (4, 0)] [0, 100, 0, 16, 11] _)
        refine sd_iaload hC dX2_takeCart_47 (?_ : Sd X 48 [(0, 12), (1, 0), (2, 0), (3, 16), (4, 0)] [0, 0, 16, 11] _)
        refine sd_inv0 (τ := []) (τr := [16, 0, 0]) (ci := 1) (q := (RX1, TX1, 12)) hC WG (M_X1_cartBears _) rfl rfl rfl rfl  rfl rfl wl_4_162 wl_3_154 wl_3_155 wl_1_2 wl_3_156 hd_X1_cartBears (by rw [e3]; decide) (by decide) dX2_takeCart_48 (?_ : Sd X 51 [(0, 12), (1, 0), (2, 0), (3, 16), (4, 0)] [0] _)
        refine sd_if_eq (tgt := 92) hC dX2_takeCart_51 rfl (?_ : Sd X 92 [(0, 12), (1, 0), (2, 0), (3, 16), (4, 0)] [] _) (?_ : Sd X 54 [(0, 12), (1, 0), (2, 0), (3, 16), (4, 0)] [] _)
        · exact Sd.weak (by decide) (S_92 k9 h9)
        · refine sd_aload_n hC 12 dX2_takeCart_54 rfl (by decide) (by decide) (?_ : Sd X 55 [(0, 12), (1, 0), (2, 0), (3, 16), (4, 0)] [12] _)
          refine sd_get hC (ci := 2) (j := 3) (C := RX2) (T := TX2) (N := 10) rfl rfl (by decide) in_X2 wl_2_42 dX2_takeCart_55 (?_ : Sd X 58 [(0, 12), (1, 0), (2, 0), (3, 16), (4, 0)] [100] _)
          refine sd_iload hC dX2_takeCart_58 (by decide) (?_ : Sd X 60 [(0, 12), (1, 0), (2, 0), (3, 16), (4, 0)] [0, 100] _)
          refine sd_iload_n hC dX2_takeCart_60 rfl (by decide) (?_ : Sd X 61 [(0, 12), (1, 0), (2, 0), (3, 16), (4, 0)] [0, 0, 100] _)
          refine sd_iastore hC dX2_takeCart_61 (?_ : Sd X 62 [(0, 12), (1, 0), (2, 0), (3, 16), (4, 0)] [] _)
          refine sd_aload_n hC 12 dX2_takeCart_62 rfl (by decide) (by decide) (?_ : Sd X 63 [(0, 12), (1, 0), (2, 0), (3, 16), (4, 0)] [12] _)
          refine sd_get hC (ci := 2) (j := 2) (C := RX2) (T := TX2) (N := 10) rfl rfl (by decide) in_X2 wl_2_40 dX2_takeCart_63 (?_ : Sd X 66 [(0, 12), (1, 0), (2, 0), (3, 16), (4, 0)] [200] _)
          refine sd_bipush hC dX2_takeCart_66 (by decide) (?_ : Sd X 68 [(0, 12), (1, 0), (2, 0), (3, 16), (4, 0)] [0, 200] _)
          refine sd_aaload (e := 100) hC (List.mem_of_getElem? (i := 7) rfl) rfl rfl dX2_takeCart_68 (?_ : Sd X 69 [(0, 12), (1, 0), (2, 0), (3, 16), (4, 0)] [100] _)
          refine sd_iload_n hC dX2_takeCart_69 rfl (by decide) (?_ : Sd X 70 [(0, 12), (1, 0), (2, 0), (3, 16), (4, 0)] [0, 100] _)
          refine sd_iload hC dX2_takeCart_70 (by decide) (?_ : Sd X 72 [(0, 12), (1, 0), (2, 0), (3, 16), (4, 0)] [0, 0, 100] _)
          refine sd_iastore hC dX2_takeCart_72 (?_ : Sd X 73 [(0, 12), (1, 0), (2, 0), (3, 16), (4, 0)] [] _)
          refine sd_aload_n hC 12 dX2_takeCart_73 rfl (by decide) (by decide) (?_ : Sd X 74 [(0, 12), (1, 0), (2, 0), (3, 16), (4, 0)] [12] _)
          refine sd_get hC (ci := 2) (j := 2) (C := RX2) (T := TX2) (N := 10) rfl rfl (by decide) in_X2 wl_2_40 dX2_takeCart_74 (?_ : Sd X 77 [(0, 12), (1, 0), (2, 0), (3, 16), (4, 0)] [200] _)
          refine sd_iconst hC dX2_takeCart_77 ⟨by decide, by decide⟩ (?_ : Sd X 78 [(0, 12), (1, 0), (2, 0), (3, 16), (4, 0)] [0, 200] _)
          refine sd_aaload (e := 100) hC (List.mem_of_getElem? (i := 7) rfl) rfl rfl dX2_takeCart_78 (?_ : Sd X 79 [(0, 12), (1, 0), (2, 0), (3, 16), (4, 0)] [100] _)
          refine sd_iload_n hC dX2_takeCart_79 rfl (by decide) (?_ : Sd X 80 [(0, 12), (1, 0), (2, 0), (3, 16), (4, 0)] [0, 100] _)
          refine sd_iconst hC dX2_takeCart_80 ⟨by decide, by decide⟩ (?_ : Sd X 81 [(0, 12), (1, 0), (2, 0), (3, 16), (4, 0)] [0, 0, 100] _)
          refine sd_iastore hC dX2_takeCart_81 (?_ : Sd X 82 [(0, 12), (1, 0), (2, 0), (3, 16), (4, 0)] [] _)
          refine sd_aload_n hC 12 dX2_takeCart_82 rfl (by decide) (by decide) (?_ : Sd X 83 [(0, 12), (1, 0), (2, 0), (3, 16), (4, 0)] [12] _)
          refine sd_get hC (ci := 2) (j := 2) (C := RX2) (T := TX2) (N := 10) rfl rfl (by decide) in_X2 wl_2_40 dX2_takeCart_83 (?_ : Sd X 86 [(0, 12), (1, 0), (2, 0), (3, 16), (4, 0)] [200] _)
          refine sd_iconst hC dX2_takeCart_86 ⟨by decide, by decide⟩ (?_ : Sd X 87 [(0, 12), (1, 0), (2, 0), (3, 16), (4, 0)] [0, 200] _)
          refine sd_aaload (e := 100) hC (List.mem_of_getElem? (i := 7) rfl) rfl rfl dX2_takeCart_87 (?_ : Sd X 88 [(0, 12), (1, 0), (2, 0), (3, 16), (4, 0)] [100] _)
          refine sd_iload_n hC dX2_takeCart_88 rfl (by decide) (?_ : Sd X 89 [(0, 12), (1, 0), (2, 0), (3, 16), (4, 0)] [0, 100] _)
          refine sd_iload_n hC dX2_takeCart_89 rfl (by decide) (?_ : Sd X 90 [(0, 12), (1, 0), (2, 0), (3, 16), (4, 0)] [0, 0, 100] _)
          refine sd_iastore hC dX2_takeCart_90 (?_ : Sd X 91 [(0, 12), (1, 0), (2, 0), (3, 16), (4, 0)] [] _)
          exact sd_return hC hT dX2_takeCart_91
  refine (?_ : Sd X 0 [(0, 12), (1, 0), (2, 0)] [] (E_X2_takeCart Q))
  unfold E_X2_takeCart
  refine sd_aload_n hC 12 dX2_takeCart_0 rfl (by decide) (by decide) (?_ : Sd X 1 [(0, 12), (1, 0), (2, 0)] [12] _)
  refine sd_iload_n hC dX2_takeCart_1 rfl (by decide) (?_ : Sd X 2 [(0, 12), (1, 0), (2, 0)] [0, 12] _)
  refine sd_inv0 (τ := []) (τr := [0]) (ci := 2) (q := (RX2, TX2, 10)) hC WG (M_X2_thingOf _) rfl rfl rfl rfl  rfl rfl wl_4_147 wl_4_149 wp_53 wl_1_7 wl_4_150 hd_X2_thingOf (by rw [e3]; decide) (by decide) dX2_takeCart_2 (?_ : Sd X 5 [(0, 12), (1, 0), (2, 0)] [16] _)
  refine sd_astore_n (Γ' := [(0, 12), (1, 0), (2, 0), (3, 16)]) hC dX2_takeCart_5 rfl (by decide) (by rw [e2]; decide) (by decide) (?_ : Sd X 6 [(0, 12), (1, 0), (2, 0), (3, 16)] [] _)
  refine sd_iconst hC dX2_takeCart_6 ⟨by decide, by decide⟩ (?_ : Sd X 7 [(0, 12), (1, 0), (2, 0), (3, 16)] [0] _)
  refine sd_istore (Γ' := [(0, 12), (1, 0), (2, 0), (3, 16), (4, 0)]) hC dX2_takeCart_7 (by rw [e2]; decide) (by decide) (?_ : Sd X 9 [(0, 12), (1, 0), (2, 0), (3, 16), (4, 0)] [] _)
  exact Sd.weak (by decide) (S_9)
theorem wl_3_194 : Cond.static yX8_apart ∈ WALL := tb3 (List.mem_of_getElem? (i := 194) rfl) rfl
theorem wl_3_195 : Cond.code yX8_apart cX8_apart 3 (some .int) ∈ WALL := tb3 (List.mem_of_getElem? (i := 195) rfl) rfl
theorem wl_4_158 : Cond.methodLink RX2 135 yX2_takeCart ∈ WALL := tb4 (List.mem_of_getElem? (i := 158) rfl) rfl
theorem wl_4_160 : Cond.instanceMethod yX2_takeCart ∈ WALL := tb4 (List.mem_of_getElem? (i := 160) rfl) rfl
theorem wp_55 : Cond.selects RX2 yX2_takeCart yX2_takeCart ∈ WALL := tbS (List.mem_of_getElem? (i := 55) rfl)
theorem wl_4_161 : Cond.code yX2_takeCart cX2_takeCart 5 none ∈ WALL := tb4 (List.mem_of_getElem? (i := 161) rfl) rfl
theorem hd_X2_setOut : yX2_setOut.cls ≠ "java/lang/invoke/MethodHandle" ∧ yX2_setOut.cls ≠ "java/lang/invoke/VarHandle" ∧ (parseMethodDescriptor yX2_setOut.desc).map (fun d => d.parameters.length) = some 1 := by decide +kernel
set_option maxRecDepth 100000 in
set_option maxHeartbeats 4000000 in
theorem M_X2_setOut (l : Launch) : Mt l yX2_setOut (Cond.code yX2_setOut cX2_setOut 3 none :: WALL) { frames := 3, cells := 0, slots := 0, locals := 68 } [12, 0] none T_X2_setOut := by
  refine Mt.mk (B := E_X2_setOut) (by decide +kernel) (by decide) (fun _ _ _ hh => hh) ?_
  intro X Q e1 e2 e3 hC hN hT
  subst e1
  have hC : CF X cX2_setOut RX2 WALL := hC
  have S_93 : Sd X 93 [(0, 12), (1, 0), (2, 0)] [] (B_X2_setOut_93 Q) := by
    unfold B_X2_setOut_93
    exact sd_return hC hT dX2_setOut_93
  have S_45 : Sd X 45 [(0, 12), (1, 0)] [] (B_X2_setOut_45 Q) := by
    unfold B_X2_setOut_45
    refine sd_aload_n hC 12 dX2_setOut_45 rfl (by decide) (by decide) (?_ : Sd X 46 [(0, 12), (1, 0)] [12] _)
    refine sd_get hC (ci := 2) (j := 2) (C := RX2) (T := TX2) (N := 10) rfl rfl (by decide) in_X2 wl_2_40 dX2_setOut_46 (?_ : Sd X 49 [(0, 12), (1, 0)] [200] _)
    refine sd_iconst hC dX2_setOut_49 ⟨by decide, by decide⟩ (?_ : Sd X 50 [(0, 12), (1, 0)] [0, 200] _)
    refine sd_aaload (e := 100) hC (List.mem_of_getElem? (i := 7) rfl) rfl rfl dX2_setOut_50 (?_ : Sd X 51 [(0, 12), (1, 0)] [100] _)
    refine sd_iload_n hC dX2_setOut_51 rfl (by decide) (?_ : Sd X 52 [(0, 12), (1, 0)] [0, 100] _)
    refine sd_iaload hC dX2_setOut_52 (?_ : Sd X 53 [(0, 12), (1, 0)] [0] _)
    refine sd_iconst hC dX2_setOut_53 ⟨by decide, by decide⟩ (?_ : Sd X 54 [(0, 12), (1, 0)] [0, 0] _)
    refine sd_icmp_eq (tgt := 58) hC dX2_setOut_54 rfl (?_ : Sd X 58 [(0, 12), (1, 0)] [] _) (?_ : Sd X 57 [(0, 12), (1, 0)] [] _)
    · refine sd_aload_n hC 12 dX2_setOut_58 rfl (by decide) (by decide) (?_ : Sd X 59 [(0, 12), (1, 0)] [12] _)
      refine sd_get hC (ci := 2) (j := 2) (C := RX2) (T := TX2) (N := 10) rfl rfl (by decide) in_X2 wl_2_40 dX2_setOut_59 (?_ : Sd X 62 [(0, 12), (1, 0)] [200] _)
      refine sd_iconst hC dX2_setOut_62 ⟨by decide, by decide⟩ (?_ : Sd X 63 [(0, 12), (1, 0)] [0, 200] _)
      refine sd_aaload (e := 100) hC (List.mem_of_getElem? (i := 7) rfl) rfl rfl dX2_setOut_63 (?_ : Sd X 64 [(0, 12), (1, 0)] [100] _)
      refine sd_iload_n hC dX2_setOut_64 rfl (by decide) (?_ : Sd X 65 [(0, 12), (1, 0)] [0, 100] _)
      refine sd_iaload hC dX2_setOut_65 (?_ : Sd X 66 [(0, 12), (1, 0)] [0] _)
      refine sd_aload_n hC 12 dX2_setOut_66 rfl (by decide) (by decide) (?_ : Sd X 67 [(0, 12), (1, 0)] [12, 0] _)
      refine sd_iload_n hC dX2_setOut_67 rfl (by decide) (?_ : Sd X 68 [(0, 12), (1, 0)] [0, 12, 0] _)
      refine sd_inv0 (τ := [0]) (τr := [0]) (ci := 2) (q := (RX2, TX2, 10)) hC WG (M_X2_placeAhead _) rfl rfl rfl rfl  rfl rfl wl_4_123 wl_4_125 wp_47 wl_1_7 wl_4_126 hd_X2_placeAhead (by rw [e3]; decide) (by decide) dX2_setOut_68 (?_ : Sd X 71 [(0, 12), (1, 0)] [0, 0] _)
      refine sd_invs (τ := []) (τs := [0, 0]) hC true "NarrowRings" WG (M_X8_apart _) rfl rfl rfl rfl (by decide) wl_3_194 wl_1_1 wl_3_195 hd_X8_apart (by rw [e3]; decide) (by decide) dX2_setOut_71 (?_ : Sd X 74 [(0, 12), (1, 0)] [0] _)
      refine sd_istore_n (Γ' := [(0, 12), (1, 0), (2, 0)]) hC dX2_setOut_74 rfl (by rw [e2]; decide) (by decide) (?_ : Sd X 75 [(0, 12), (1, 0), (2, 0)] [] _)
      refine sd_iload_n hC dX2_setOut_75 rfl (by decide) (?_ : Sd X 76 [(0, 12), (1, 0), (2, 0)] [0] _)
      refine sd_if_ne (tgt := 87) hC dX2_setOut_76 rfl (?_ : Sd X 87 [(0, 12), (1, 0), (2, 0)] [] _) (?_ : Sd X 79 [(0, 12), (1, 0), (2, 0)] [] _)
      · refine sd_aload_n hC 12 dX2_setOut_87 rfl (by decide) (by decide) (?_ : Sd X 88 [(0, 12), (1, 0), (2, 0)] [12] _)
        refine sd_iload_n hC dX2_setOut_88 rfl (by decide) (?_ : Sd X 89 [(0, 12), (1, 0), (2, 0)] [0, 12] _)
        refine sd_iload_n hC dX2_setOut_89 rfl (by decide) (?_ : Sd X 90 [(0, 12), (1, 0), (2, 0)] [0, 0, 12] _)
        refine sd_inv0v (τ := []) (τr := [0, 0]) (ci := 2) (q := (RX2, TX2, 10)) hC WG (M_X2_takeCart _) rfl rfl rfl rfl  rfl rfl wl_4_158 wl_4_160 wp_55 wl_1_7 wl_4_161 hd_X2_takeCart (by rw [e3]; decide) (by decide) dX2_setOut_90 (?_ : Sd X 93 [(0, 12), (1, 0), (2, 0)] [] _)
        exact Sd.weak (by decide) (S_93)
      · refine sd_aload_n hC 12 dX2_setOut_79 rfl (by decide) (by decide) (?_ : Sd X 80 [(0, 12), (1, 0), (2, 0)] [12] _)
        refine sd_iload_n hC dX2_setOut_80 rfl (by decide) (?_ : Sd X 81 [(0, 12), (1, 0), (2, 0)] [0, 12] _)
        refine sd_inv0v (τ := []) (τr := [0]) (ci := 2) (q := (RX2, TX2, 10)) hC WG (M_X2_arrive _) rfl rfl rfl rfl  rfl rfl wl_4_131 wl_4_133 wp_49 wl_1_7 wl_4_134 hd_X2_arrive (by rw [e3]; decide) (by decide) dX2_setOut_81 (?_ : Sd X 84 [(0, 12), (1, 0), (2, 0)] [] _)
        refine sd_goto (tgt := 93) hC dX2_setOut_84 rfl (?_ : Sd X 93 [(0, 12), (1, 0), (2, 0)] [] _)
        exact Sd.weak (by decide) (S_93)
    · exact sd_return hC hT dX2_setOut_57
  refine (?_ : Sd X 0 [(0, 12), (1, 0)] [] (E_X2_setOut Q))
  unfold E_X2_setOut
  refine sd_aload_n hC 12 dX2_setOut_0 rfl (by decide) (by decide) (?_ : Sd X 1 [(0, 12), (1, 0)] [12] _)
  refine sd_get hC (ci := 2) (j := 2) (C := RX2) (T := TX2) (N := 10) rfl rfl (by decide) in_X2 wl_2_40 dX2_setOut_1 (?_ : Sd X 4 [(0, 12), (1, 0)] [200] _)
  refine sd_iconst hC dX2_setOut_4 ⟨by decide, by decide⟩ (?_ : Sd X 5 [(0, 12), (1, 0)] [0, 200] _)
  refine sd_aaload (e := 100) hC (List.mem_of_getElem? (i := 7) rfl) rfl rfl dX2_setOut_5 (?_ : Sd X 6 [(0, 12), (1, 0)] [100] _)
  refine sd_iload_n hC dX2_setOut_6 rfl (by decide) (?_ : Sd X 7 [(0, 12), (1, 0)] [0, 100] _)
  refine sd_iaload hC dX2_setOut_7 (?_ : Sd X 8 [(0, 12), (1, 0)] [0] _)
  refine sd_if_ne (tgt := 45) hC dX2_setOut_8 rfl (?_ : Sd X 45 [(0, 12), (1, 0)] [] _) (?_ : Sd X 11 [(0, 12), (1, 0)] [] _)
  · exact Sd.weak (by decide) (S_45)
  · refine sd_aload_n hC 12 dX2_setOut_11 rfl (by decide) (by decide) (?_ : Sd X 12 [(0, 12), (1, 0)] [12] _)
    refine sd_get hC (ci := 2) (j := 8) (C := RX2) (T := TX2) (N := 10) rfl rfl (by decide) in_X2 wl_2_51 dX2_setOut_12 (?_ : Sd X 15 [(0, 12), (1, 0)] [11] _)
    refine sd_get hC (ci := 1) (j := 9) (C := RX1) (T := TX1) (N := 12) rfl rfl (by decide) in_X1 wl_1_113 dX2_setOut_15 (?_ : Sd X 18 [(0, 12), (1, 0)] [200] _)
    refine sd_aload_n hC 12 dX2_setOut_18 rfl (by decide) (by decide) (?_ : Sd X 19 [(0, 12), (1, 0)] [12, 200] _)
    refine sd_get hC (ci := 2) (j := 2) (C := RX2) (T := TX2) (N := 10) rfl rfl (by decide) in_X2 wl_2_40 dX2_setOut_19 (?_ : Sd X 22 [(0, 12), (1, 0)] [200, 200] _)
    refine sd_iconst hC dX2_setOut_22 ⟨by decide, by decide⟩ (?_ : Sd X 23 [(0, 12), (1, 0)] [0, 200, 200] _)
    refine sd_aaload (e := 100) hC (List.mem_of_getElem? (i := 7) rfl) rfl rfl dX2_setOut_23 (?_ : Sd X 24 [(0, 12), (1, 0)] [100, 200] _)
    refine sd_iload_n hC dX2_setOut_24 rfl (by decide) (?_ : Sd X 25 [(0, 12), (1, 0)] [0, 100, 200] _)
    refine sd_iaload hC dX2_setOut_25 (?_ : Sd X 26 [(0, 12), (1, 0)] [0, 200] _)
    refine sd_aaload (e := 100) hC (List.mem_of_getElem? (i := 7) rfl) rfl rfl dX2_setOut_26 (?_ : Sd X 27 [(0, 12), (1, 0)] [100] _)
    refine sd_iconst hC dX2_setOut_27 ⟨by decide, by decide⟩ (?_ : Sd X 28 [(0, 12), (1, 0)] [0, 100] _)
    refine sd_iaload hC dX2_setOut_28 (?_ : Sd X 29 [(0, 12), (1, 0)] [0] _)
    refine sd_aload_n hC 12 dX2_setOut_29 rfl (by decide) (by decide) (?_ : Sd X 30 [(0, 12), (1, 0)] [12, 0] _)
    refine sd_get hC (ci := 2) (j := 0) (C := RX2) (T := TX2) (N := 10) rfl rfl (by decide) in_X2 wl_2_36 dX2_setOut_30 (?_ : Sd X 33 [(0, 12), (1, 0)] [0, 0] _)
    refine sd_icmp_ne (tgt := 45) hC dX2_setOut_33 rfl (?_ : Sd X 45 [(0, 12), (1, 0)] [] _) (?_ : Sd X 36 [(0, 12), (1, 0)] [] _)
    · exact Sd.weak (by decide) (S_45)
    · refine sd_aload_n hC 12 dX2_setOut_36 rfl (by decide) (by decide) (?_ : Sd X 37 [(0, 12), (1, 0)] [12] _)
      refine sd_get hC (ci := 2) (j := 2) (C := RX2) (T := TX2) (N := 10) rfl rfl (by decide) in_X2 wl_2_40 dX2_setOut_37 (?_ : Sd X 40 [(0, 12), (1, 0)] [200] _)
      refine sd_iconst hC dX2_setOut_40 ⟨by decide, by decide⟩ (?_ : Sd X 41 [(0, 12), (1, 0)] [0, 200] _)
      refine sd_aaload (e := 100) hC (List.mem_of_getElem? (i := 7) rfl) rfl rfl dX2_setOut_41 (?_ : Sd X 42 [(0, 12), (1, 0)] [100] _)
      refine sd_iload_n hC dX2_setOut_42 rfl (by decide) (?_ : Sd X 43 [(0, 12), (1, 0)] [0, 100] _)
      refine sd_iconst hC dX2_setOut_43 ⟨by decide, by decide⟩ (?_ : Sd X 44 [(0, 12), (1, 0)] [0, 0, 100] _)
      refine sd_iastore hC dX2_setOut_44 (?_ : Sd X 45 [(0, 12), (1, 0)] [] _)
      exact Sd.weak (by decide) (S_45)
theorem wl_4_139 : Cond.methodLink RX2 81 yX2_serveGates ∈ WALL := tb4 (List.mem_of_getElem? (i := 139) rfl) rfl
theorem wl_4_141 : Cond.instanceMethod yX2_serveGates ∈ WALL := tb4 (List.mem_of_getElem? (i := 141) rfl) rfl
theorem wp_51 : Cond.selects RX2 yX2_serveGates yX2_serveGates ∈ WALL := tbS (List.mem_of_getElem? (i := 51) rfl)
theorem wl_4_142 : Cond.code yX2_serveGates cX2_serveGates 3 none ∈ WALL := tb4 (List.mem_of_getElem? (i := 142) rfl) rfl
theorem wl_4_153 : Cond.methodLink RX2 84 yX2_setOut ∈ WALL := tb4 (List.mem_of_getElem? (i := 153) rfl) rfl
theorem wl_4_155 : Cond.instanceMethod yX2_setOut ∈ WALL := tb4 (List.mem_of_getElem? (i := 155) rfl) rfl
theorem wp_54 : Cond.selects RX2 yX2_setOut yX2_setOut ∈ WALL := tbS (List.mem_of_getElem? (i := 54) rfl)
theorem wl_4_156 : Cond.code yX2_setOut cX2_setOut 3 none ∈ WALL := tb4 (List.mem_of_getElem? (i := 156) rfl) rfl
theorem wl_4_115 : Cond.methodLink RX2 78 yX2_advance ∈ WALL := tb4 (List.mem_of_getElem? (i := 115) rfl) rfl
theorem wl_4_117 : Cond.instanceMethod yX2_advance ∈ WALL := tb4 (List.mem_of_getElem? (i := 117) rfl) rfl
theorem wp_45 : Cond.selects RX2 yX2_advance yX2_advance ∈ WALL := tbS (List.mem_of_getElem? (i := 45) rfl)
theorem wl_4_118 : Cond.code yX2_advance cX2_advance 3 none ∈ WALL := tb4 (List.mem_of_getElem? (i := 118) rfl) rfl
theorem hd_X2_goOn : yX2_goOn.cls ≠ "java/lang/invoke/MethodHandle" ∧ yX2_goOn.cls ≠ "java/lang/invoke/VarHandle" ∧ (parseMethodDescriptor yX2_goOn.desc).map (fun d => d.parameters.length) = some 0 := by decide +kernel
set_option maxRecDepth 100000 in
set_option maxHeartbeats 4000000 in
theorem M_X2_goOn (l : Launch) : Mt l yX2_goOn (Cond.code yX2_goOn cX2_goOn 2 none :: WALL) { frames := 4, cells := 0, slots := 0, locals := 90 } [12] none T_X2_goOn := by
  refine Mt.mk (B := E_X2_goOn) (by decide +kernel) (by decide) (fun _ _ _ hh => hh) ?_
  intro X Q e1 e2 e3 hC hN hT
  subst e1
  have hC : CF X cX2_goOn RX2 WALL := hC
  have S_92 : ∀ (k48 : tK), Sd X 48 [(0, 12), (1, 0)] [] k48 → Sd X 92 [(0, 12), (1, 0)] [] (B_X2_goOn_92 Q k48) := by
    intro k48 h48
    unfold B_X2_goOn_92
    refine sd_iinc (Γ' := [(0, 12), (1, 0)]) hC dX2_goOn_92 (by decide) (by rw [e2]; decide) (by decide) (?_ : Sd X 95 [(0, 12), (1, 0)] [] _)
    refine sd_goto (tgt := 48) hC dX2_goOn_95 rfl (?_ : Sd X 48 [(0, 12), (1, 0)] [] _)
    exact Sd.weak (by decide) h48
  have S_80 : ∀ (k48 : tK), Sd X 48 [(0, 12), (1, 0)] [] k48 → Sd X 80 [(0, 12), (1, 0)] [] (B_X2_goOn_80 Q k48) := by
    intro k48 h48
    unfold B_X2_goOn_80
    refine sd_aload_n hC 12 dX2_goOn_80 rfl (by decide) (by decide) (?_ : Sd X 81 [(0, 12), (1, 0)] [12] _)
    refine sd_get hC (ci := 2) (j := 2) (C := RX2) (T := TX2) (N := 10) rfl rfl (by decide) in_X2 wl_2_40 dX2_goOn_81 (?_ : Sd X 84 [(0, 12), (1, 0)] [200] _)
    refine sd_iconst hC dX2_goOn_84 ⟨by decide, by decide⟩ (?_ : Sd X 85 [(0, 12), (1, 0)] [0, 200] _)
    refine sd_aaload (e := 100) hC (List.mem_of_getElem? (i := 7) rfl) rfl rfl dX2_goOn_85 (?_ : Sd X 86 [(0, 12), (1, 0)] [100] _)
    refine sd_iload_n hC dX2_goOn_86 rfl (by decide) (?_ : Sd X 87 [(0, 12), (1, 0)] [0, 100] _)
    refine sd_dup2 hC (by decide) (by decide) dX2_goOn_87 (?_ : Sd X 88 [(0, 12), (1, 0)] [0, 100, 0, 100] _)
    refine sd_iaload hC dX2_goOn_88 (?_ : Sd X 89 [(0, 12), (1, 0)] [0, 0, 100] _)
    refine sd_iconst hC dX2_goOn_89 ⟨by decide, by decide⟩ (?_ : Sd X 90 [(0, 12), (1, 0)] [0, 0, 0, 100] _)
    refine sd_iadd hC dX2_goOn_90 (?_ : Sd X 91 [(0, 12), (1, 0)] [0, 0, 100] _)
    refine sd_iastore hC dX2_goOn_91 (?_ : Sd X 92 [(0, 12), (1, 0)] [] _)
    exact Sd.weak (by decide) (S_92 k48 h48)
  have S_48 : Sd X 48 [(0, 12), (1, 0)] [] (L_X2_goOn_48 Q) := by
    unfold L_X2_goOn_48
    refine Sd.loop (fun k48 h48 => ?_)
    refine sd_iload_n hC dX2_goOn_48 rfl (by decide) (?_ : Sd X 49 [(0, 12), (1, 0)] [0] _)
    refine sd_aload_n hC 12 dX2_goOn_49 rfl (by decide) (by decide) (?_ : Sd X 50 [(0, 12), (1, 0)] [12, 0] _)
    refine sd_get hC (ci := 2) (j := 1) (C := RX2) (T := TX2) (N := 10) rfl rfl (by decide) in_X2 wl_2_38 dX2_goOn_50 (?_ : Sd X 53 [(0, 12), (1, 0)] [0, 0] _)
    refine sd_icmp_ge (tgt := 98) hC dX2_goOn_53 rfl (?_ : Sd X 98 [(0, 12), (1, 0)] [] _) (?_ : Sd X 56 [(0, 12), (1, 0)] [] _)
    · refine sd_aload_n hC 12 dX2_goOn_98 rfl (by decide) (by decide) (?_ : Sd X 99 [(0, 12), (1, 0)] [12] _)
      refine sd_dup hC (by decide) dX2_goOn_99 (?_ : Sd X 100 [(0, 12), (1, 0)] [12, 12] _)
      refine sd_get hC (ci := 2) (j := 0) (C := RX2) (T := TX2) (N := 10) rfl rfl (by decide) in_X2 wl_2_36 dX2_goOn_100 (?_ : Sd X 103 [(0, 12), (1, 0)] [0, 12] _)
      refine sd_iconst hC dX2_goOn_103 ⟨by decide, by decide⟩ (?_ : Sd X 104 [(0, 12), (1, 0)] [0, 0, 12] _)
      refine sd_iadd hC dX2_goOn_104 (?_ : Sd X 105 [(0, 12), (1, 0)] [0, 12] _)
      refine sd_put hC (ci := 2) (j := 0) (C := RX2) (T := TX2) (N := 10) tyX2 tyX2_ok nmX2 rfl rfl (by decide) in_X2 rfl rfl wl_2_36 dX2_goOn_105 (?_ : Sd X 108 [(0, 12), (1, 0)] [] _)
      exact sd_return hC hT dX2_goOn_108
    · refine sd_aload_n hC 12 dX2_goOn_56 rfl (by decide) (by decide) (?_ : Sd X 57 [(0, 12), (1, 0)] [12] _)
      refine sd_get hC (ci := 2) (j := 2) (C := RX2) (T := TX2) (N := 10) rfl rfl (by decide) in_X2 wl_2_40 dX2_goOn_57 (?_ : Sd X 60 [(0, 12), (1, 0)] [200] _)
      refine sd_iconst hC dX2_goOn_60 ⟨by decide, by decide⟩ (?_ : Sd X 61 [(0, 12), (1, 0)] [0, 200] _)
      refine sd_aaload (e := 100) hC (List.mem_of_getElem? (i := 7) rfl) rfl rfl dX2_goOn_61 (?_ : Sd X 62 [(0, 12), (1, 0)] [100] _)
      refine sd_iload_n hC dX2_goOn_62 rfl (by decide) (?_ : Sd X 63 [(0, 12), (1, 0)] [0, 100] _)
      refine sd_iaload hC dX2_goOn_63 (?_ : Sd X 64 [(0, 12), (1, 0)] [0] _)
      refine sd_iconst hC dX2_goOn_64 ⟨by decide, by decide⟩ (?_ : Sd X 65 [(0, 12), (1, 0)] [0, 0] _)
      refine sd_icmp_eq (tgt := 80) hC dX2_goOn_65 rfl (?_ : Sd X 80 [(0, 12), (1, 0)] [] _) (?_ : Sd X 68 [(0, 12), (1, 0)] [] _)
      · exact Sd.weak (by decide) (S_80 k48 h48)
      · refine sd_aload_n hC 12 dX2_goOn_68 rfl (by decide) (by decide) (?_ : Sd X 69 [(0, 12), (1, 0)] [12] _)
        refine sd_get hC (ci := 2) (j := 2) (C := RX2) (T := TX2) (N := 10) rfl rfl (by decide) in_X2 wl_2_40 dX2_goOn_69 (?_ : Sd X 72 [(0, 12), (1, 0)] [200] _)
        refine sd_iconst hC dX2_goOn_72 ⟨by decide, by decide⟩ (?_ : Sd X 73 [(0, 12), (1, 0)] [0, 200] _)
        refine sd_aaload (e := 100) hC (List.mem_of_getElem? (i := 7) rfl) rfl rfl dX2_goOn_73 (?_ : Sd X 74 [(0, 12), (1, 0)] [100] _)
        refine sd_iload_n hC dX2_goOn_74 rfl (by decide) (?_ : Sd X 75 [(0, 12), (1, 0)] [0, 100] _)
        refine sd_iaload hC dX2_goOn_75 (?_ : Sd X 76 [(0, 12), (1, 0)] [0] _)
        refine sd_iconst hC dX2_goOn_76 ⟨by decide, by decide⟩ (?_ : Sd X 77 [(0, 12), (1, 0)] [0, 0] _)
        refine sd_icmp_ne (tgt := 92) hC dX2_goOn_77 rfl (?_ : Sd X 92 [(0, 12), (1, 0)] [] _) (?_ : Sd X 80 [(0, 12), (1, 0)] [] _)
        · exact Sd.weak (by decide) (S_92 k48 h48)
        · exact Sd.weak (by decide) (S_80 k48 h48)
  have S_27 : Sd X 27 [(0, 12), (1, 0)] [] (L_X2_goOn_27 Q) := by
    unfold L_X2_goOn_27
    refine Sd.loop (fun k27 h27 => ?_)
    refine sd_iload_n hC dX2_goOn_27 rfl (by decide) (?_ : Sd X 28 [(0, 12), (1, 0)] [0] _)
    refine sd_aload_n hC 12 dX2_goOn_28 rfl (by decide) (by decide) (?_ : Sd X 29 [(0, 12), (1, 0)] [12, 0] _)
    refine sd_get hC (ci := 2) (j := 1) (C := RX2) (T := TX2) (N := 10) rfl rfl (by decide) in_X2 wl_2_38 dX2_goOn_29 (?_ : Sd X 32 [(0, 12), (1, 0)] [0, 0] _)
    refine sd_icmp_ge (tgt := 46) hC dX2_goOn_32 rfl (?_ : Sd X 46 [(0, 12), (1, 0)] [] _) (?_ : Sd X 35 [(0, 12), (1, 0)] [] _)
    · refine sd_iconst hC dX2_goOn_46 ⟨by decide, by decide⟩ (?_ : Sd X 47 [(0, 12), (1, 0)] [0] _)
      refine sd_istore_n (Γ' := [(0, 12), (1, 0)]) hC dX2_goOn_47 rfl (by rw [e2]; decide) (by decide) (?_ : Sd X 48 [(0, 12), (1, 0)] [] _)
      exact Sd.weak (by decide) (S_48)
    · refine sd_aload_n hC 12 dX2_goOn_35 rfl (by decide) (by decide) (?_ : Sd X 36 [(0, 12), (1, 0)] [12] _)
      refine sd_iload_n hC dX2_goOn_36 rfl (by decide) (?_ : Sd X 37 [(0, 12), (1, 0)] [0, 12] _)
      refine sd_inv0v (τ := []) (τr := [0]) (ci := 2) (q := (RX2, TX2, 10)) hC WG (M_X2_setOut _) rfl rfl rfl rfl  rfl rfl wl_4_153 wl_4_155 wp_54 wl_1_7 wl_4_156 hd_X2_setOut (by rw [e3]; decide) (by decide) dX2_goOn_37 (?_ : Sd X 40 [(0, 12), (1, 0)] [] _)
      refine sd_iinc (Γ' := [(0, 12), (1, 0)]) hC dX2_goOn_40 (by decide) (by rw [e2]; decide) (by decide) (?_ : Sd X 43 [(0, 12), (1, 0)] [] _)
      refine sd_goto (tgt := 27) hC dX2_goOn_43 rfl (?_ : Sd X 27 [(0, 12), (1, 0)] [] _)
      exact Sd.weak (by decide) h27
  have S_2 : Sd X 2 [(0, 12), (1, 0)] [] (L_X2_goOn_2 Q) := by
    unfold L_X2_goOn_2
    refine Sd.loop (fun k2 h2 => ?_)
    refine sd_iload_n hC dX2_goOn_2 rfl (by decide) (?_ : Sd X 3 [(0, 12), (1, 0)] [0] _)
    refine sd_aload_n hC 12 dX2_goOn_3 rfl (by decide) (by decide) (?_ : Sd X 4 [(0, 12), (1, 0)] [12, 0] _)
    refine sd_get hC (ci := 2) (j := 1) (C := RX2) (T := TX2) (N := 10) rfl rfl (by decide) in_X2 wl_2_38 dX2_goOn_4 (?_ : Sd X 7 [(0, 12), (1, 0)] [0, 0] _)
    refine sd_icmp_ge (tgt := 21) hC dX2_goOn_7 rfl (?_ : Sd X 21 [(0, 12), (1, 0)] [] _) (?_ : Sd X 10 [(0, 12), (1, 0)] [] _)
    · refine sd_aload_n hC 12 dX2_goOn_21 rfl (by decide) (by decide) (?_ : Sd X 22 [(0, 12), (1, 0)] [12] _)
      refine sd_inv0v (τ := []) (τr := []) (ci := 2) (q := (RX2, TX2, 10)) hC WG (M_X2_serveGates _) rfl rfl rfl rfl  rfl rfl wl_4_139 wl_4_141 wp_51 wl_1_7 wl_4_142 hd_X2_serveGates (by rw [e3]; decide) (by decide) dX2_goOn_22 (?_ : Sd X 25 [(0, 12), (1, 0)] [] _)
      refine sd_iconst hC dX2_goOn_25 ⟨by decide, by decide⟩ (?_ : Sd X 26 [(0, 12), (1, 0)] [0] _)
      refine sd_istore_n (Γ' := [(0, 12), (1, 0)]) hC dX2_goOn_26 rfl (by rw [e2]; decide) (by decide) (?_ : Sd X 27 [(0, 12), (1, 0)] [] _)
      exact Sd.weak (by decide) (S_27)
    · refine sd_aload_n hC 12 dX2_goOn_10 rfl (by decide) (by decide) (?_ : Sd X 11 [(0, 12), (1, 0)] [12] _)
      refine sd_iload_n hC dX2_goOn_11 rfl (by decide) (?_ : Sd X 12 [(0, 12), (1, 0)] [0, 12] _)
      refine sd_inv0v (τ := []) (τr := [0]) (ci := 2) (q := (RX2, TX2, 10)) hC WG (M_X2_advance _) rfl rfl rfl rfl  rfl rfl wl_4_115 wl_4_117 wp_45 wl_1_7 wl_4_118 hd_X2_advance (by rw [e3]; decide) (by decide) dX2_goOn_12 (?_ : Sd X 15 [(0, 12), (1, 0)] [] _)
      refine sd_iinc (Γ' := [(0, 12), (1, 0)]) hC dX2_goOn_15 (by decide) (by rw [e2]; decide) (by decide) (?_ : Sd X 18 [(0, 12), (1, 0)] [] _)
      refine sd_goto (tgt := 2) hC dX2_goOn_18 rfl (?_ : Sd X 2 [(0, 12), (1, 0)] [] _)
      exact Sd.weak (by decide) h2
  refine (?_ : Sd X 0 [(0, 12)] [] (E_X2_goOn Q))
  unfold E_X2_goOn
  refine sd_iconst hC dX2_goOn_0 ⟨by decide, by decide⟩ (?_ : Sd X 1 [(0, 12)] [0] _)
  refine sd_istore_n (Γ' := [(0, 12), (1, 0)]) hC dX2_goOn_1 rfl (by rw [e2]; decide) (by decide) (?_ : Sd X 2 [(0, 12), (1, 0)] [] _)
  exact Sd.weak (by decide) (S_2)
theorem wl_2_34 : Cond.methodLink RX2 3 Lib.objectInit ∈ WALL := tb2 (List.mem_of_getElem? (i := 34) rfl) rfl
theorem wl_2_35 : Cond.classLink RX2 19 "[[I" ∈ WALL := tb2 (List.mem_of_getElem? (i := 35) rfl) rfl
theorem hd_X2_init : yX2_init.cls ≠ "java/lang/invoke/MethodHandle" ∧ yX2_init.cls ≠ "java/lang/invoke/VarHandle" ∧ (parseMethodDescriptor yX2_init.desc).map (fun d => d.parameters.length) = some 2 := by decide +kernel
set_option maxRecDepth 100000 in
set_option maxHeartbeats 4000000 in
theorem M_X2_init (l : Launch) : Mt l yX2_init (Cond.code yX2_init cX2_init 3 none :: WALL) { frames := 1, cells := 16, slots := 782, locals := 20 } [12, 11, 117] none T_X2_init := by
  refine Mt.mk (B := E_X2_init) (by decide +kernel) (by decide) (fun _ _ _ hh => hh) ?_
  intro X Q e1 e2 e3 hC hN hT
  subst e1
  have hC : CF X cX2_init RX2 WALL := hC
  refine (?_ : Sd X 0 [(0, 12), (1, 11), (2, 117)] [] (E_X2_init Q))
  unfold E_X2_init
  refine sd_aload_n hC 12 dX2_init_0 rfl (by decide) (by decide) (?_ : Sd X 1 [(0, 12), (1, 11), (2, 117)] [12] _)
  refine sd_objInit hC (by decide) wl_2_34 wl_1_29 wl_1_30 (by rw [e3]; decide) (by decide) dX2_init_1 (?_ : Sd X 4 [(0, 12), (1, 11), (2, 117)] [] _)
  refine sd_aload_n hC 12 dX2_init_4 rfl (by decide) (by decide) (?_ : Sd X 5 [(0, 12), (1, 11), (2, 117)] [12] _)
  refine sd_aload_n hC 11 dX2_init_5 rfl (by decide) (by decide) (?_ : Sd X 6 [(0, 12), (1, 11), (2, 117)] [11, 12] _)
  refine sd_put hC (ci := 2) (j := 8) (C := RX2) (T := TX2) (N := 10) tyX2 tyX2_ok nmX2 rfl rfl (by decide) in_X2 rfl rfl wl_2_51 dX2_init_6 (?_ : Sd X 9 [(0, 12), (1, 11), (2, 117)] [] _)
  refine sd_aload_n hC 12 dX2_init_9 rfl (by decide) (by decide) (?_ : Sd X 10 [(0, 12), (1, 11), (2, 117)] [12] _)
  refine sd_aload_n hC 117 dX2_init_10 rfl (by decide) (by decide) (?_ : Sd X 11 [(0, 12), (1, 11), (2, 117)] [117, 12] _)
  refine sd_put hC (ci := 2) (j := 9) (C := RX2) (T := TX2) (N := 10) tyX2 tyX2_ok nmX2 rfl rfl (by decide) in_X2 rfl rfl wl_2_52 dX2_init_11 (?_ : Sd X 14 [(0, 12), (1, 11), (2, 117)] [] _)
  refine sd_aload_n hC 12 dX2_init_14 rfl (by decide) (by decide) (?_ : Sd X 15 [(0, 12), (1, 11), (2, 117)] [12] _)
  refine sd_bipush hC dX2_init_15 (by decide) (?_ : Sd X 17 [(0, 12), (1, 11), (2, 117)] [0, 12] _)
  refine sd_bipush hC dX2_init_17 (by decide) (?_ : Sd X 19 [(0, 12), (1, 11), (2, 117)] [0, 0, 12] _)
  refine sd_mna hC wl_2_35 wl_1_76 (by rw [e3]) (by rw [e3]) dX2_init_19 (?_ : Sd X 23 [(0, 12), (1, 11), (2, 117)] [200, 12] _)
  refine sd_putF hC (ci := 2) (j := 2) (C := RX2) (T := TX2) (N := 10) tyX2 tyX2_ok nmX2 rfl rfl (by decide) in_X2 rfl rfl rfl hN wl_2_40 dX2_init_23 (?_ : Sd X 26 [(0, 12), (1, 11), (2, 117)] [] _)
  refine sd_aload_n hC 12 dX2_init_26 rfl (by decide) (by decide) (?_ : Sd X 27 [(0, 12), (1, 11), (2, 117)] [12] _)
  refine sd_bipush hC dX2_init_27 (by decide) (?_ : Sd X 29 [(0, 12), (1, 11), (2, 117)] [0, 12] _)
  refine sd_newa hC (e := 0) (List.mem_of_getElem? (i := 0) rfl) (fun C z => by cases z) rfl (by decide) wl_1_76 (by rw [e3]) (by rw [e3]) dX2_init_29 (?_ : Sd X 31 [(0, 12), (1, 11), (2, 117)] [100, 12] _)
  refine sd_putF hC (ci := 2) (j := 3) (C := RX2) (T := TX2) (N := 10) tyX2 tyX2_ok nmX2 rfl rfl (by decide) in_X2 rfl rfl rfl hN wl_2_42 dX2_init_31 (?_ : Sd X 34 [(0, 12), (1, 11), (2, 117)] [] _)
  refine sd_aload_n hC 12 dX2_init_34 rfl (by decide) (by decide) (?_ : Sd X 35 [(0, 12), (1, 11), (2, 117)] [12] _)
  refine sd_bipush hC dX2_init_35 (by decide) (?_ : Sd X 37 [(0, 12), (1, 11), (2, 117)] [0, 12] _)
  refine sd_newa hC (e := 0) (List.mem_of_getElem? (i := 0) rfl) (fun C z => by cases z) rfl (by decide) wl_1_76 (by rw [e3]) (by rw [e3]) dX2_init_37 (?_ : Sd X 39 [(0, 12), (1, 11), (2, 117)] [100, 12] _)
  refine sd_putF hC (ci := 2) (j := 4) (C := RX2) (T := TX2) (N := 10) tyX2 tyX2_ok nmX2 rfl rfl (by decide) in_X2 rfl rfl rfl hN wl_2_44 dX2_init_39 (?_ : Sd X 42 [(0, 12), (1, 11), (2, 117)] [] _)
  refine sd_aload_n hC 12 dX2_init_42 rfl (by decide) (by decide) (?_ : Sd X 43 [(0, 12), (1, 11), (2, 117)] [12] _)
  refine sd_bipush hC dX2_init_43 (by decide) (?_ : Sd X 45 [(0, 12), (1, 11), (2, 117)] [0, 12] _)
  refine sd_newa hC (e := 0) (List.mem_of_getElem? (i := 0) rfl) (fun C z => by cases z) rfl (by decide) wl_1_76 (by rw [e3]) (by rw [e3]) dX2_init_45 (?_ : Sd X 47 [(0, 12), (1, 11), (2, 117)] [100, 12] _)
  refine sd_putF hC (ci := 2) (j := 5) (C := RX2) (T := TX2) (N := 10) tyX2 tyX2_ok nmX2 rfl rfl (by decide) in_X2 rfl rfl rfl hN wl_2_46 dX2_init_47 (?_ : Sd X 50 [(0, 12), (1, 11), (2, 117)] [] _)
  refine sd_aload_n hC 12 dX2_init_50 rfl (by decide) (by decide) (?_ : Sd X 51 [(0, 12), (1, 11), (2, 117)] [12] _)
  refine sd_bipush hC dX2_init_51 (by decide) (?_ : Sd X 53 [(0, 12), (1, 11), (2, 117)] [0, 12] _)
  refine sd_newa hC (e := 0) (List.mem_of_getElem? (i := 0) rfl) (fun C z => by cases z) rfl (by decide) wl_1_76 (by rw [e3]) (by rw [e3]) dX2_init_53 (?_ : Sd X 55 [(0, 12), (1, 11), (2, 117)] [100, 12] _)
  refine sd_putF hC (ci := 2) (j := 6) (C := RX2) (T := TX2) (N := 10) tyX2 tyX2_ok nmX2 rfl rfl (by decide) in_X2 rfl rfl rfl hN wl_2_48 dX2_init_55 (?_ : Sd X 58 [(0, 12), (1, 11), (2, 117)] [] _)
  refine sd_aload_n hC 12 dX2_init_58 rfl (by decide) (by decide) (?_ : Sd X 59 [(0, 12), (1, 11), (2, 117)] [12] _)
  refine sd_bipush hC dX2_init_59 (by decide) (?_ : Sd X 61 [(0, 12), (1, 11), (2, 117)] [0, 12] _)
  refine sd_newa hC (e := 0) (List.mem_of_getElem? (i := 0) rfl) (fun C z => by cases z) rfl (by decide) wl_1_76 (by rw [e3]) (by rw [e3]) dX2_init_61 (?_ : Sd X 63 [(0, 12), (1, 11), (2, 117)] [100, 12] _)
  refine sd_putF hC (ci := 2) (j := 7) (C := RX2) (T := TX2) (N := 10) tyX2 tyX2_ok nmX2 rfl rfl (by decide) in_X2 rfl rfl rfl hN wl_2_50 dX2_init_63 (?_ : Sd X 66 [(0, 12), (1, 11), (2, 117)] [] _)
  exact sd_return hC hT dX2_init_66
theorem wl_3_139 : Cond.methodLink RX3 83 yJ9_min_7cf53 ∈ WALL := tb3 (List.mem_of_getElem? (i := 139) rfl) rfl
theorem wl_3_142 : Cond.methodLink RX3 89 yJ9_max_7cf53 ∈ WALL := tb3 (List.mem_of_getElem? (i := 142) rfl) rfl
theorem wl_3_143 : Cond.static yJ9_max_7cf53 ∈ WALL := tb3 (List.mem_of_getElem? (i := 143) rfl) rfl
theorem wl_3_144 : Cond.code yJ9_max_7cf53 cJ9_max_7cf53 2 (some .int) ∈ WALL := tb3 (List.mem_of_getElem? (i := 144) rfl) rfl
theorem wl_1_206 : Cond.fieldLink RX3 9 "NarrowRings$Finder" "city" "LNarrowRings$City;" ∈ WALL := tb1 (List.mem_of_getElem? (i := 206) rfl) rfl
theorem wl_3_145 : Cond.methodLink RX3 92 yX1_ringBears ∈ WALL := tb3 (List.mem_of_getElem? (i := 145) rfl) rfl
theorem hd_X3_allBear : yX3_allBear.cls ≠ "java/lang/invoke/MethodHandle" ∧ yX3_allBear.cls ≠ "java/lang/invoke/VarHandle" ∧ (parseMethodDescriptor yX3_allBear.desc).map (fun d => d.parameters.length) = some 3 := by decide +kernel
set_option maxRecDepth 100000 in
set_option maxHeartbeats 4000000 in
theorem M_X3_allBear (l : Launch) : Mt l yX3_allBear (Cond.code yX3_allBear cX3_allBear 5 (some .boolean) :: WALL) { frames := 2, cells := 0, slots := 0, locals := 46 } [13, 16, 0, 0] (some 0) T_X3_allBear := by
  refine Mt.mk (B := E_X3_allBear) (by decide +kernel) (by decide) (fun _ _ _ hh => hh) ?_
  intro X Q e1 e2 e3 hC hN hT
  subst e1
  have hC : CF X cX3_allBear RX3 WALL := hC
  have S_7 : Sd X 7 [(0, 13), (1, 16), (2, 0), (3, 0), (4, 0)] [] (L_X3_allBear_7 Q) := by
    unfold L_X3_allBear_7
    refine Sd.loop (fun k7 h7 => ?_)
    refine sd_iload hC dX3_allBear_7 (by decide) (?_ : Sd X 9 [(0, 13), (1, 16), (2, 0), (3, 0), (4, 0)] [0] _)
    refine sd_iload_n hC dX3_allBear_9 rfl (by decide) (?_ : Sd X 10 [(0, 13), (1, 16), (2, 0), (3, 0), (4, 0)] [0, 0] _)
    refine sd_iload_n hC dX3_allBear_10 rfl (by decide) (?_ : Sd X 11 [(0, 13), (1, 16), (2, 0), (3, 0), (4, 0)] [0, 0, 0] _)
    refine sd_imax hC wl_3_142 wl_3_143 wl_1_16 wl_3_144 (by rw [e3]; decide) (by decide) dX3_allBear_11 (?_ : Sd X 14 [(0, 13), (1, 16), (2, 0), (3, 0), (4, 0)] [0, 0] _)
    refine sd_icmp_gt (tgt := 38) hC dX3_allBear_14 rfl (?_ : Sd X 38 [(0, 13), (1, 16), (2, 0), (3, 0), (4, 0)] [] _) (?_ : Sd X 17 [(0, 13), (1, 16), (2, 0), (3, 0), (4, 0)] [] _)
    · refine sd_iconst hC dX3_allBear_38 ⟨by decide, by decide⟩ (?_ : Sd X 39 [(0, 13), (1, 16), (2, 0), (3, 0), (4, 0)] [0] _)
      exact sd_zreturn hC hT dX3_allBear_39
    · refine sd_aload_n hC 13 dX3_allBear_17 rfl (by decide) (by decide) (?_ : Sd X 18 [(0, 13), (1, 16), (2, 0), (3, 0), (4, 0)] [13] _)
      refine sd_get hC (ci := 3) (j := 0) (C := RX3) (T := TX3) (N := 6) rfl rfl (by decide) in_X3 wl_1_206 dX3_allBear_18 (?_ : Sd X 21 [(0, 13), (1, 16), (2, 0), (3, 0), (4, 0)] [11] _)
      refine sd_aload_n hC 16 dX3_allBear_21 rfl (by decide) (by decide) (?_ : Sd X 22 [(0, 13), (1, 16), (2, 0), (3, 0), (4, 0)] [16, 11] _)
      refine sd_iload hC dX3_allBear_22 (by decide) (?_ : Sd X 24 [(0, 13), (1, 16), (2, 0), (3, 0), (4, 0)] [0, 16, 11] _)
      refine sd_inv0 (τ := []) (τr := [16, 0]) (ci := 1) (q := (RX1, TX1, 12)) hC WG (M_X1_ringBears _) rfl rfl rfl rfl  rfl rfl wl_3_145 wl_3_146 wl_3_147 wl_1_2 wl_3_148 hd_X1_ringBears (by rw [e3]; decide) (by decide) dX3_allBear_24 (?_ : Sd X 27 [(0, 13), (1, 16), (2, 0), (3, 0), (4, 0)] [0] _)
      refine sd_if_ne (tgt := 32) hC dX3_allBear_27 rfl (?_ : Sd X 32 [(0, 13), (1, 16), (2, 0), (3, 0), (4, 0)] [] _) (?_ : Sd X 30 [(0, 13), (1, 16), (2, 0), (3, 0), (4, 0)] [] _)
      · refine sd_iinc (Γ' := [(0, 13), (1, 16), (2, 0), (3, 0), (4, 0)]) hC dX3_allBear_32 (by decide) (by rw [e2]; decide) (by decide) (?_ : Sd X 35 [(0, 13), (1, 16), (2, 0), (3, 0), (4, 0)] [] _)
        refine sd_goto (tgt := 7) hC dX3_allBear_35 rfl (?_ : Sd X 7 [(0, 13), (1, 16), (2, 0), (3, 0), (4, 0)] [] _)
        exact Sd.weak (by decide) h7
      · refine sd_iconst hC dX3_allBear_30 ⟨by decide, by decide⟩ (?_ : Sd X 31 [(0, 13), (1, 16), (2, 0), (3, 0), (4, 0)] [0] _)
        exact sd_zreturn hC hT dX3_allBear_31
  refine (?_ : Sd X 0 [(0, 13), (1, 16), (2, 0), (3, 0)] [] (E_X3_allBear Q))
  unfold E_X3_allBear
  refine sd_iload_n hC dX3_allBear_0 rfl (by decide) (?_ : Sd X 1 [(0, 13), (1, 16), (2, 0), (3, 0)] [0] _)
  refine sd_iload_n hC dX3_allBear_1 rfl (by decide) (?_ : Sd X 2 [(0, 13), (1, 16), (2, 0), (3, 0)] [0, 0] _)
  refine sd_imin hC wl_3_139 wl_3_140 wl_1_16 wl_3_141 (by rw [e3]; decide) (by decide) dX3_allBear_2 (?_ : Sd X 5 [(0, 13), (1, 16), (2, 0), (3, 0)] [0] _)
  refine sd_istore (Γ' := [(0, 13), (1, 16), (2, 0), (3, 0), (4, 0)]) hC dX3_allBear_5 (by rw [e2]; decide) (by decide) (?_ : Sd X 7 [(0, 13), (1, 16), (2, 0), (3, 0), (4, 0)] [] _)
  exact Sd.weak (by decide) (S_7)
theorem wl_1_84 : Cond.fieldLink RX3 112 "NarrowRings$City" "gates" "I" ∈ WALL := tb1 (List.mem_of_getElem? (i := 84) rfl) rfl
theorem wl_1_105 : Cond.fieldLink RX3 123 "NarrowRings$City" "gate" "[[I" ∈ WALL := tb1 (List.mem_of_getElem? (i := 105) rfl) rfl
theorem wl_1_211 : Cond.fieldLink RX3 24 "NarrowRings$Finder" "next" "[I" ∈ WALL := tb1 (List.mem_of_getElem? (i := 211) rfl) rfl
theorem wl_1_210 : Cond.fieldLink RX3 21 "NarrowRings$Finder" "rest" "[I" ∈ WALL := tb1 (List.mem_of_getElem? (i := 210) rfl) rfl
theorem wl_1_209 : Cond.fieldLink RX3 17 "NarrowRings$Finder" "price" "[I" ∈ WALL := tb1 (List.mem_of_getElem? (i := 209) rfl) rfl
theorem wl_3_188 : Cond.constant RX3 59 (Int32.ofInt 1000000000) ∈ WALL := tb3 (List.mem_of_getElem? (i := 188) rfl) rfl
theorem hd_X3_restFromLast : yX3_restFromLast.cls ≠ "java/lang/invoke/MethodHandle" ∧ yX3_restFromLast.cls ≠ "java/lang/invoke/VarHandle" ∧ (parseMethodDescriptor yX3_restFromLast.desc).map (fun d => d.parameters.length) = some 2 := by decide +kernel
set_option maxRecDepth 100000 in
set_option maxHeartbeats 4000000 in
theorem M_X3_restFromLast (l : Launch) : Mt l yX3_restFromLast (Cond.code yX3_restFromLast cX3_restFromLast 4 none :: WALL) { frames := 1, cells := 0, slots := 0, locals := 22 } [13, 0, 0] none T_X3_restFromLast := by
  refine Mt.mk (B := E_X3_restFromLast) (by decide +kernel) (by decide) (fun _ _ _ hh => hh) ?_
  intro X Q e1 e2 e3 hC hN hT
  subst e1
  have hC : CF X cX3_restFromLast RX3 WALL := hC
  have S_79 : ∀ (k2 : tK), Sd X 2 [(0, 13), (1, 0), (2, 0), (3, 0)] [] k2 → Sd X 79 [(0, 13), (1, 0), (2, 0), (3, 0)] [] (B_X3_restFromLast_79 Q k2) := by
    intro k2 h2
    unfold B_X3_restFromLast_79
    refine sd_iinc (Γ' := [(0, 13), (1, 0), (2, 0), (3, 0)]) hC dX3_restFromLast_79 (by decide) (by rw [e2]; decide) (by decide) (?_ : Sd X 82 [(0, 13), (1, 0), (2, 0), (3, 0)] [] _)
    refine sd_goto (tgt := 2) hC dX3_restFromLast_82 rfl (?_ : Sd X 2 [(0, 13), (1, 0), (2, 0), (3, 0)] [] _)
    exact Sd.weak (by decide) h2
  have S_78 : ∀ (k2 : tK), Sd X 2 [(0, 13), (1, 0), (2, 0), (3, 0)] [] k2 → Sd X 78 [(0, 13), (1, 0), (2, 0), (3, 0)] [0, 0, 100] (B_X3_restFromLast_78 Q k2) := by
    intro k2 h2
    unfold B_X3_restFromLast_78
    refine sd_iastore hC dX3_restFromLast_78 (?_ : Sd X 79 [(0, 13), (1, 0), (2, 0), (3, 0)] [] _)
    exact Sd.weak (by decide) (S_79 k2 h2)
  have S_2 : Sd X 2 [(0, 13), (1, 0), (2, 0), (3, 0)] [] (L_X3_restFromLast_2 Q) := by
    unfold L_X3_restFromLast_2
    refine Sd.loop (fun k2 h2 => ?_)
    refine sd_iload_n hC dX3_restFromLast_2 rfl (by decide) (?_ : Sd X 3 [(0, 13), (1, 0), (2, 0), (3, 0)] [0] _)
    refine sd_aload_n hC 13 dX3_restFromLast_3 rfl (by decide) (by decide) (?_ : Sd X 4 [(0, 13), (1, 0), (2, 0), (3, 0)] [13, 0] _)
    refine sd_get hC (ci := 3) (j := 0) (C := RX3) (T := TX3) (N := 6) rfl rfl (by decide) in_X3 wl_1_206 dX3_restFromLast_4 (?_ : Sd X 7 [(0, 13), (1, 0), (2, 0), (3, 0)] [11, 0] _)
    refine sd_get hC (ci := 1) (j := 1) (C := RX1) (T := TX1) (N := 12) rfl rfl (by decide) in_X1 wl_1_84 dX3_restFromLast_7 (?_ : Sd X 10 [(0, 13), (1, 0), (2, 0), (3, 0)] [0, 0] _)
    refine sd_icmp_ge (tgt := 85) hC dX3_restFromLast_10 rfl (?_ : Sd X 85 [(0, 13), (1, 0), (2, 0), (3, 0)] [] _) (?_ : Sd X 13 [(0, 13), (1, 0), (2, 0), (3, 0)] [] _)
    · exact sd_return hC hT dX3_restFromLast_85
    · refine sd_aload_n hC 13 dX3_restFromLast_13 rfl (by decide) (by decide) (?_ : Sd X 14 [(0, 13), (1, 0), (2, 0), (3, 0)] [13] _)
      refine sd_get hC (ci := 3) (j := 0) (C := RX3) (T := TX3) (N := 6) rfl rfl (by decide) in_X3 wl_1_206 dX3_restFromLast_14 (?_ : Sd X 17 [(0, 13), (1, 0), (2, 0), (3, 0)] [11] _)
      refine sd_get hC (ci := 1) (j := 6) (C := RX1) (T := TX1) (N := 12) rfl rfl (by decide) in_X1 wl_1_105 dX3_restFromLast_17 (?_ : Sd X 20 [(0, 13), (1, 0), (2, 0), (3, 0)] [200] _)
      refine sd_iload_n hC dX3_restFromLast_20 rfl (by decide) (?_ : Sd X 21 [(0, 13), (1, 0), (2, 0), (3, 0)] [0, 200] _)
      refine sd_aaload (e := 100) hC (List.mem_of_getElem? (i := 7) rfl) rfl rfl dX3_restFromLast_21 (?_ : Sd X 22 [(0, 13), (1, 0), (2, 0), (3, 0)] [100] _)
      refine sd_iconst hC dX3_restFromLast_22 ⟨by decide, by decide⟩ (?_ : Sd X 23 [(0, 13), (1, 0), (2, 0), (3, 0)] [0, 100] _)
      refine sd_iaload hC dX3_restFromLast_23 (?_ : Sd X 24 [(0, 13), (1, 0), (2, 0), (3, 0)] [0] _)
      refine sd_iload_n hC dX3_restFromLast_24 rfl (by decide) (?_ : Sd X 25 [(0, 13), (1, 0), (2, 0), (3, 0)] [0, 0] _)
      refine sd_icmp_ne (tgt := 79) hC dX3_restFromLast_25 rfl (?_ : Sd X 79 [(0, 13), (1, 0), (2, 0), (3, 0)] [] _) (?_ : Sd X 28 [(0, 13), (1, 0), (2, 0), (3, 0)] [] _)
      · exact Sd.weak (by decide) (S_79 k2 h2)
      · refine sd_aload_n hC 13 dX3_restFromLast_28 rfl (by decide) (by decide) (?_ : Sd X 29 [(0, 13), (1, 0), (2, 0), (3, 0)] [13] _)
        refine sd_get hC (ci := 3) (j := 5) (C := RX3) (T := TX3) (N := 6) rfl rfl (by decide) in_X3 wl_1_211 dX3_restFromLast_29 (?_ : Sd X 32 [(0, 13), (1, 0), (2, 0), (3, 0)] [100] _)
        refine sd_iload_n hC dX3_restFromLast_32 rfl (by decide) (?_ : Sd X 33 [(0, 13), (1, 0), (2, 0), (3, 0)] [0, 100] _)
        refine sd_iconst hC dX3_restFromLast_33 ⟨by decide, by decide⟩ (?_ : Sd X 34 [(0, 13), (1, 0), (2, 0), (3, 0)] [0, 0, 100] _)
        refine sd_iastore hC dX3_restFromLast_34 (?_ : Sd X 35 [(0, 13), (1, 0), (2, 0), (3, 0)] [] _)
        refine sd_aload_n hC 13 dX3_restFromLast_35 rfl (by decide) (by decide) (?_ : Sd X 36 [(0, 13), (1, 0), (2, 0), (3, 0)] [13] _)
        refine sd_get hC (ci := 3) (j := 4) (C := RX3) (T := TX3) (N := 6) rfl rfl (by decide) in_X3 wl_1_210 dX3_restFromLast_36 (?_ : Sd X 39 [(0, 13), (1, 0), (2, 0), (3, 0)] [100] _)
        refine sd_iload_n hC dX3_restFromLast_39 rfl (by decide) (?_ : Sd X 40 [(0, 13), (1, 0), (2, 0), (3, 0)] [0, 100] _)
        refine sd_aload_n hC 13 dX3_restFromLast_40 rfl (by decide) (by decide) (?_ : Sd X 41 [(0, 13), (1, 0), (2, 0), (3, 0)] [13, 0, 100] _)
        refine sd_get hC (ci := 3) (j := 3) (C := RX3) (T := TX3) (N := 6) rfl rfl (by decide) in_X3 wl_1_209 dX3_restFromLast_41 (?_ : Sd X 44 [(0, 13), (1, 0), (2, 0), (3, 0)] [100, 0, 100] _)
        refine sd_iload_n hC dX3_restFromLast_44 rfl (by decide) (?_ : Sd X 45 [(0, 13), (1, 0), (2, 0), (3, 0)] [0, 100, 0, 100] _)
        refine sd_iaload hC dX3_restFromLast_45 (?_ : Sd X 46 [(0, 13), (1, 0), (2, 0), (3, 0)] [0, 0, 100] _)
        refine sd_ldc hC wl_3_188 dX3_restFromLast_46 ⟨by decide, by decide⟩ (?_ : Sd X 48 [(0, 13), (1, 0), (2, 0), (3, 0)] [0, 0, 0, 100] _)
        refine sd_icmp_lt (tgt := 56) hC dX3_restFromLast_48 rfl (?_ : Sd X 56 [(0, 13), (1, 0), (2, 0), (3, 0)] [0, 100] _) (?_ : Sd X 51 [(0, 13), (1, 0), (2, 0), (3, 0)] [0, 100] _)
        · refine sd_aload_n hC 13 dX3_restFromLast_56 rfl (by decide) (by decide) (?_ : Sd X 57 [(0, 13), (1, 0), (2, 0), (3, 0)] [13, 0, 100] _)
          refine sd_get hC (ci := 3) (j := 3) (C := RX3) (T := TX3) (N := 6) rfl rfl (by decide) in_X3 wl_1_209 dX3_restFromLast_57 (?_ : Sd X 60 [(0, 13), (1, 0), (2, 0), (3, 0)] [100, 0, 100] _)
          refine sd_iload_n hC dX3_restFromLast_60 rfl (by decide) (?_ : Sd X 61 [(0, 13), (1, 0), (2, 0), (3, 0)] [0, 100, 0, 100] _)
          refine sd_iaload hC dX3_restFromLast_61 (?_ : Sd X 62 [(0, 13), (1, 0), (2, 0), (3, 0)] [0, 0, 100] _)
          refine sd_aload_n hC 13 dX3_restFromLast_62 rfl (by decide) (by decide) (?_ : Sd X 63 [(0, 13), (1, 0), (2, 0), (3, 0)] [13, 0, 0, 100] _)
          refine sd_get hC (ci := 3) (j := 0) (C := RX3) (T := TX3) (N := 6) rfl rfl (by decide) in_X3 wl_1_206 dX3_restFromLast_63 (?_ : Sd X 66 [(0, 13), (1, 0), (2, 0), (3, 0)] [11, 0, 0, 100] _)
          refine sd_get hC (ci := 1) (j := 6) (C := RX1) (T := TX1) (N := 12) rfl rfl (by decide) in_X1 wl_1_105 dX3_restFromLast_66 (?_ : Sd X 69 [(0, 13), (1, 0), (2, 0), (3, 0)] [200, 0, 0, 100] _)
          refine sd_iload_n hC dX3_restFromLast_69 rfl (by decide) (?_ : Sd X 70 [(0, 13), (1, 0), (2, 0), (3, 0)] [0, 200, 0, 0, 100] _)
          refine sd_aaload (e := 100) hC (List.mem_of_getElem? (i := 7) rfl) rfl rfl dX3_restFromLast_70 (?_ : Sd X 71 [(0, 13), (1, 0), (2, 0), (3, 0)] [100, 0, 0, 100] _)
          refine sd_iconst hC dX3_restFromLast_71 ⟨by decide, by decide⟩ (?_ : Sd X 72 [(0, 13), (1, 0), (2, 0), (3, 0)] [0, 100, 0, 0, 100] _)
          refine sd_iaload hC dX3_restFromLast_72 (?_ : Sd X 73 [(0, 13), (1, 0), (2, 0), (3, 0)] [0, 0, 0, 100] _)
          refine sd_iload_n hC dX3_restFromLast_73 rfl (by decide) (?_ : Sd X 74 [(0, 13), (1, 0), (2, 0), (3, 0)] [0, 0, 0, 0, 100] _)
          refine sd_invs (τ := [0, 0, 100]) (τs := [0, 0]) hC true "NarrowRings" WG (M_X8_apart _) rfl rfl rfl rfl (by decide) wl_3_194 wl_1_1 wl_3_195 hd_X8_apart (by rw [e3]; decide) (by decide) dX3_restFromLast_74 (?_ : Sd X 77 [(0, 13), (1, 0), (2, 0), (3, 0)] [0, 0, 0, 100] _)
          refine sd_iadd hC dX3_restFromLast_77 (?_ : Sd X 78 [(0, 13), (1, 0), (2, 0), (3, 0)] [0, 0, 100] _)
          exact Sd.weak (by decide) (S_78 k2 h2)
        · refine sd_ldc hC wl_3_188 dX3_restFromLast_51 ⟨by decide, by decide⟩ (?_ : Sd X 53 [(0, 13), (1, 0), (2, 0), (3, 0)] [0, 0, 100] _)
          refine sd_goto (tgt := 78) hC dX3_restFromLast_53 rfl (?_ : Sd X 78 [(0, 13), (1, 0), (2, 0), (3, 0)] [0, 0, 100] _)
          exact Sd.weak (by decide) (S_78 k2 h2)
  refine (?_ : Sd X 0 [(0, 13), (1, 0), (2, 0)] [] (E_X3_restFromLast Q))
  unfold E_X3_restFromLast
  refine sd_iconst hC dX3_restFromLast_0 ⟨by decide, by decide⟩ (?_ : Sd X 1 [(0, 13), (1, 0), (2, 0)] [0] _)
  refine sd_istore_n (Γ' := [(0, 13), (1, 0), (2, 0), (3, 0)]) hC dX3_restFromLast_1 rfl (by rw [e2]; decide) (by decide) (?_ : Sd X 2 [(0, 13), (1, 0), (2, 0), (3, 0)] [] _)
  exact Sd.weak (by decide) (S_2)
theorem wl_1_208 : Cond.fieldLink RX3 109 "NarrowRings$Finder" "least" "I" ∈ WALL := tb1 (List.mem_of_getElem? (i := 208) rfl) rfl
theorem hd_X3_firstBest : yX3_firstBest.cls ≠ "java/lang/invoke/MethodHandle" ∧ yX3_firstBest.cls ≠ "java/lang/invoke/VarHandle" ∧ (parseMethodDescriptor yX3_firstBest.desc).map (fun d => d.parameters.length) = some 2 := by decide +kernel
set_option maxRecDepth 100000 in
set_option maxHeartbeats 4000000 in
theorem M_X3_firstBest (l : Launch) : Mt l yX3_firstBest (Cond.code yX3_firstBest cX3_firstBest 6 (some .int) :: WALL) { frames := 1, cells := 0, slots := 0, locals := 22 } [13, 0, 0] (some 0) T_X3_firstBest := by
  refine Mt.mk (B := E_X3_firstBest) (by decide +kernel) (by decide) (fun _ _ _ hh => hh) ?_
  intro X Q e1 e2 e3 hC hN hT
  subst e1
  have hC : CF X cX3_firstBest RX3 WALL := hC
  have S_95 : ∀ (k11 : tK), Sd X 11 [(0, 13), (1, 0), (2, 0), (3, 0), (4, 0)] [] k11 → Sd X 95 [(0, 13), (1, 0), (2, 0), (3, 0), (4, 0)] [] (B_X3_firstBest_95 Q k11) := by
    intro k11 h11
    unfold B_X3_firstBest_95
    refine sd_iinc (Γ' := [(0, 13), (1, 0), (2, 0), (3, 0), (4, 0)]) hC dX3_firstBest_95 (by decide) (by rw [e2]; decide) (by decide) (?_ : Sd X 98 [(0, 13), (1, 0), (2, 0), (3, 0), (4, 0)] [] _)
    refine sd_goto (tgt := 11) hC dX3_firstBest_98 rfl (?_ : Sd X 11 [(0, 13), (1, 0), (2, 0), (3, 0), (4, 0)] [] _)
    exact Sd.weak (by decide) h11
  have S_11 : Sd X 11 [(0, 13), (1, 0), (2, 0), (3, 0), (4, 0)] [] (L_X3_firstBest_11 Q) := by
    unfold L_X3_firstBest_11
    refine Sd.loop (fun k11 h11 => ?_)
    refine sd_iload hC dX3_firstBest_11 (by decide) (?_ : Sd X 13 [(0, 13), (1, 0), (2, 0), (3, 0), (4, 0)] [0] _)
    refine sd_aload_n hC 13 dX3_firstBest_13 rfl (by decide) (by decide) (?_ : Sd X 14 [(0, 13), (1, 0), (2, 0), (3, 0), (4, 0)] [13, 0] _)
    refine sd_get hC (ci := 3) (j := 0) (C := RX3) (T := TX3) (N := 6) rfl rfl (by decide) in_X3 wl_1_206 dX3_firstBest_14 (?_ : Sd X 17 [(0, 13), (1, 0), (2, 0), (3, 0), (4, 0)] [11, 0] _)
    refine sd_get hC (ci := 1) (j := 1) (C := RX1) (T := TX1) (N := 12) rfl rfl (by decide) in_X1 wl_1_84 dX3_firstBest_17 (?_ : Sd X 20 [(0, 13), (1, 0), (2, 0), (3, 0), (4, 0)] [0, 0] _)
    refine sd_icmp_ge (tgt := 101) hC dX3_firstBest_20 rfl (?_ : Sd X 101 [(0, 13), (1, 0), (2, 0), (3, 0), (4, 0)] [] _) (?_ : Sd X 23 [(0, 13), (1, 0), (2, 0), (3, 0), (4, 0)] [] _)
    · refine sd_iload_n hC dX3_firstBest_101 rfl (by decide) (?_ : Sd X 102 [(0, 13), (1, 0), (2, 0), (3, 0), (4, 0)] [0] _)
      exact sd_ireturn hC hT dX3_firstBest_102
    · refine sd_aload_n hC 13 dX3_firstBest_23 rfl (by decide) (by decide) (?_ : Sd X 24 [(0, 13), (1, 0), (2, 0), (3, 0), (4, 0)] [13] _)
      refine sd_get hC (ci := 3) (j := 0) (C := RX3) (T := TX3) (N := 6) rfl rfl (by decide) in_X3 wl_1_206 dX3_firstBest_24 (?_ : Sd X 27 [(0, 13), (1, 0), (2, 0), (3, 0), (4, 0)] [11] _)
      refine sd_get hC (ci := 1) (j := 6) (C := RX1) (T := TX1) (N := 12) rfl rfl (by decide) in_X1 wl_1_105 dX3_firstBest_27 (?_ : Sd X 30 [(0, 13), (1, 0), (2, 0), (3, 0), (4, 0)] [200] _)
      refine sd_iload hC dX3_firstBest_30 (by decide) (?_ : Sd X 32 [(0, 13), (1, 0), (2, 0), (3, 0), (4, 0)] [0, 200] _)
      refine sd_aaload (e := 100) hC (List.mem_of_getElem? (i := 7) rfl) rfl rfl dX3_firstBest_32 (?_ : Sd X 33 [(0, 13), (1, 0), (2, 0), (3, 0), (4, 0)] [100] _)
      refine sd_iconst hC dX3_firstBest_33 ⟨by decide, by decide⟩ (?_ : Sd X 34 [(0, 13), (1, 0), (2, 0), (3, 0), (4, 0)] [0, 100] _)
      refine sd_iaload hC dX3_firstBest_34 (?_ : Sd X 35 [(0, 13), (1, 0), (2, 0), (3, 0), (4, 0)] [0] _)
      refine sd_iload_n hC dX3_firstBest_35 rfl (by decide) (?_ : Sd X 36 [(0, 13), (1, 0), (2, 0), (3, 0), (4, 0)] [0, 0] _)
      refine sd_icmp_ne (tgt := 95) hC dX3_firstBest_36 rfl (?_ : Sd X 95 [(0, 13), (1, 0), (2, 0), (3, 0), (4, 0)] [] _) (?_ : Sd X 39 [(0, 13), (1, 0), (2, 0), (3, 0), (4, 0)] [] _)
      · exact Sd.weak (by decide) (S_95 k11 h11)
      · refine sd_aload_n hC 13 dX3_firstBest_39 rfl (by decide) (by decide) (?_ : Sd X 40 [(0, 13), (1, 0), (2, 0), (3, 0), (4, 0)] [13] _)
        refine sd_get hC (ci := 3) (j := 4) (C := RX3) (T := TX3) (N := 6) rfl rfl (by decide) in_X3 wl_1_210 dX3_firstBest_40 (?_ : Sd X 43 [(0, 13), (1, 0), (2, 0), (3, 0), (4, 0)] [100] _)
        refine sd_iload hC dX3_firstBest_43 (by decide) (?_ : Sd X 45 [(0, 13), (1, 0), (2, 0), (3, 0), (4, 0)] [0, 100] _)
        refine sd_iaload hC dX3_firstBest_45 (?_ : Sd X 46 [(0, 13), (1, 0), (2, 0), (3, 0), (4, 0)] [0] _)
        refine sd_ldc hC wl_3_188 dX3_firstBest_46 ⟨by decide, by decide⟩ (?_ : Sd X 48 [(0, 13), (1, 0), (2, 0), (3, 0), (4, 0)] [0, 0] _)
        refine sd_icmp_ge (tgt := 95) hC dX3_firstBest_48 rfl (?_ : Sd X 95 [(0, 13), (1, 0), (2, 0), (3, 0), (4, 0)] [] _) (?_ : Sd X 51 [(0, 13), (1, 0), (2, 0), (3, 0), (4, 0)] [] _)
        · exact Sd.weak (by decide) (S_95 k11 h11)
        · refine sd_iload_n hC dX3_firstBest_51 rfl (by decide) (?_ : Sd X 52 [(0, 13), (1, 0), (2, 0), (3, 0), (4, 0)] [0] _)
          refine sd_aload_n hC 13 dX3_firstBest_52 rfl (by decide) (by decide) (?_ : Sd X 53 [(0, 13), (1, 0), (2, 0), (3, 0), (4, 0)] [13, 0] _)
          refine sd_get hC (ci := 3) (j := 0) (C := RX3) (T := TX3) (N := 6) rfl rfl (by decide) in_X3 wl_1_206 dX3_firstBest_53 (?_ : Sd X 56 [(0, 13), (1, 0), (2, 0), (3, 0), (4, 0)] [11, 0] _)
          refine sd_get hC (ci := 1) (j := 6) (C := RX1) (T := TX1) (N := 12) rfl rfl (by decide) in_X1 wl_1_105 dX3_firstBest_56 (?_ : Sd X 59 [(0, 13), (1, 0), (2, 0), (3, 0), (4, 0)] [200, 0] _)
          refine sd_iload hC dX3_firstBest_59 (by decide) (?_ : Sd X 61 [(0, 13), (1, 0), (2, 0), (3, 0), (4, 0)] [0, 200, 0] _)
          refine sd_aaload (e := 100) hC (List.mem_of_getElem? (i := 7) rfl) rfl rfl dX3_firstBest_61 (?_ : Sd X 62 [(0, 13), (1, 0), (2, 0), (3, 0), (4, 0)] [100, 0] _)
          refine sd_iconst hC dX3_firstBest_62 ⟨by decide, by decide⟩ (?_ : Sd X 63 [(0, 13), (1, 0), (2, 0), (3, 0), (4, 0)] [0, 100, 0] _)
          refine sd_iaload hC dX3_firstBest_63 (?_ : Sd X 64 [(0, 13), (1, 0), (2, 0), (3, 0), (4, 0)] [0, 0] _)
          refine sd_invs (τ := []) (τs := [0, 0]) hC true "NarrowRings" WG (M_X8_apart _) rfl rfl rfl rfl (by decide) wl_3_194 wl_1_1 wl_3_195 hd_X8_apart (by rw [e3]; decide) (by decide) dX3_firstBest_64 (?_ : Sd X 67 [(0, 13), (1, 0), (2, 0), (3, 0), (4, 0)] [0] _)
          refine sd_aload_n hC 13 dX3_firstBest_67 rfl (by decide) (by decide) (?_ : Sd X 68 [(0, 13), (1, 0), (2, 0), (3, 0), (4, 0)] [13, 0] _)
          refine sd_get hC (ci := 3) (j := 4) (C := RX3) (T := TX3) (N := 6) rfl rfl (by decide) in_X3 wl_1_210 dX3_firstBest_68 (?_ : Sd X 71 [(0, 13), (1, 0), (2, 0), (3, 0), (4, 0)] [100, 0] _)
          refine sd_iload hC dX3_firstBest_71 (by decide) (?_ : Sd X 73 [(0, 13), (1, 0), (2, 0), (3, 0), (4, 0)] [0, 100, 0] _)
          refine sd_iaload hC dX3_firstBest_73 (?_ : Sd X 74 [(0, 13), (1, 0), (2, 0), (3, 0), (4, 0)] [0, 0] _)
          refine sd_iadd hC dX3_firstBest_74 (?_ : Sd X 75 [(0, 13), (1, 0), (2, 0), (3, 0), (4, 0)] [0] _)
          refine sd_istore (Γ' := [(0, 13), (1, 0), (2, 0), (3, 0), (4, 0), (5, 0)]) hC dX3_firstBest_75 (by rw [e2]; decide) (by decide) (?_ : Sd X 77 [(0, 13), (1, 0), (2, 0), (3, 0), (4, 0), (5, 0)] [] _)
          refine sd_iload hC dX3_firstBest_77 (by decide) (?_ : Sd X 79 [(0, 13), (1, 0), (2, 0), (3, 0), (4, 0), (5, 0)] [0] _)
          refine sd_aload_n hC 13 dX3_firstBest_79 rfl (by decide) (by decide) (?_ : Sd X 80 [(0, 13), (1, 0), (2, 0), (3, 0), (4, 0), (5, 0)] [13, 0] _)
          refine sd_get hC (ci := 3) (j := 2) (C := RX3) (T := TX3) (N := 6) rfl rfl (by decide) in_X3 wl_1_208 dX3_firstBest_80 (?_ : Sd X 83 [(0, 13), (1, 0), (2, 0), (3, 0), (4, 0), (5, 0)] [0, 0] _)
          refine sd_icmp_ge (tgt := 95) hC dX3_firstBest_83 rfl (?_ : Sd X 95 [(0, 13), (1, 0), (2, 0), (3, 0), (4, 0), (5, 0)] [] _) (?_ : Sd X 86 [(0, 13), (1, 0), (2, 0), (3, 0), (4, 0), (5, 0)] [] _)
          · exact Sd.weak (by decide) (S_95 k11 h11)
          · refine sd_iload hC dX3_firstBest_86 (by decide) (?_ : Sd X 88 [(0, 13), (1, 0), (2, 0), (3, 0), (4, 0), (5, 0)] [0] _)
            refine sd_istore_n (Γ' := [(0, 13), (1, 0), (2, 0), (3, 0), (4, 0), (5, 0)]) hC dX3_firstBest_88 rfl (by rw [e2]; decide) (by decide) (?_ : Sd X 89 [(0, 13), (1, 0), (2, 0), (3, 0), (4, 0), (5, 0)] [] _)
            refine sd_aload_n hC 13 dX3_firstBest_89 rfl (by decide) (by decide) (?_ : Sd X 90 [(0, 13), (1, 0), (2, 0), (3, 0), (4, 0), (5, 0)] [13] _)
            refine sd_iload hC dX3_firstBest_90 (by decide) (?_ : Sd X 92 [(0, 13), (1, 0), (2, 0), (3, 0), (4, 0), (5, 0)] [0, 13] _)
            refine sd_put hC (ci := 3) (j := 2) (C := RX3) (T := TX3) (N := 6) tyX3 tyX3_ok nmX3 rfl rfl (by decide) in_X3 rfl rfl wl_1_208 dX3_firstBest_92 (?_ : Sd X 95 [(0, 13), (1, 0), (2, 0), (3, 0), (4, 0), (5, 0)] [] _)
            exact Sd.weak (by decide) (S_95 k11 h11)
  refine (?_ : Sd X 0 [(0, 13), (1, 0), (2, 0)] [] (E_X3_firstBest Q))
  unfold E_X3_firstBest
  refine sd_iconst hC dX3_firstBest_0 ⟨by decide, by decide⟩ (?_ : Sd X 1 [(0, 13), (1, 0), (2, 0)] [0] _)
  refine sd_istore_n (Γ' := [(0, 13), (1, 0), (2, 0), (3, 0)]) hC dX3_firstBest_1 rfl (by rw [e2]; decide) (by decide) (?_ : Sd X 2 [(0, 13), (1, 0), (2, 0), (3, 0)] [] _)
  refine sd_aload_n hC 13 dX3_firstBest_2 rfl (by decide) (by decide) (?_ : Sd X 3 [(0, 13), (1, 0), (2, 0), (3, 0)] [13] _)
  refine sd_ldc hC wl_3_188 dX3_firstBest_3 ⟨by decide, by decide⟩ (?_ : Sd X 5 [(0, 13), (1, 0), (2, 0), (3, 0)] [0, 13] _)
  refine sd_put hC (ci := 3) (j := 2) (C := RX3) (T := TX3) (N := 6) tyX3 tyX3_ok nmX3 rfl rfl (by decide) in_X3 rfl rfl wl_1_208 dX3_firstBest_5 (?_ : Sd X 8 [(0, 13), (1, 0), (2, 0), (3, 0)] [] _)
  refine sd_iconst hC dX3_firstBest_8 ⟨by decide, by decide⟩ (?_ : Sd X 9 [(0, 13), (1, 0), (2, 0), (3, 0)] [0] _)
  refine sd_istore (Γ' := [(0, 13), (1, 0), (2, 0), (3, 0), (4, 0)]) hC dX3_firstBest_9 (by rw [e2]; decide) (by decide) (?_ : Sd X 11 [(0, 13), (1, 0), (2, 0), (3, 0), (4, 0)] [] _)
  exact Sd.weak (by decide) (S_11)
theorem wl_3_204 : Cond.methodLink RX3 106 yX3_firstBest ∈ WALL := tb3 (List.mem_of_getElem? (i := 204) rfl) rfl
theorem wl_3_206 : Cond.instanceMethod yX3_firstBest ∈ WALL := tb3 (List.mem_of_getElem? (i := 206) rfl) rfl
theorem wp_31 : Cond.selects RX3 yX3_firstBest yX3_firstBest ∈ WALL := tbS (List.mem_of_getElem? (i := 31) rfl)
theorem wl_1_5 : Cond.initialized RX3 ∈ WALL := tb1 (List.mem_of_getElem? (i := 5) rfl) rfl
theorem wl_3_207 : Cond.code yX3_firstBest cX3_firstBest 6 (some .int) ∈ WALL := tb3 (List.mem_of_getElem? (i := 207) rfl) rfl
theorem hd_X3_restFrom : yX3_restFrom.cls ≠ "java/lang/invoke/MethodHandle" ∧ yX3_restFrom.cls ≠ "java/lang/invoke/VarHandle" ∧ (parseMethodDescriptor yX3_restFrom.desc).map (fun d => d.parameters.length) = some 2 := by decide +kernel
set_option maxRecDepth 100000 in
set_option maxHeartbeats 4000000 in
theorem M_X3_restFrom (l : Launch) : Mt l yX3_restFrom (Cond.code yX3_restFrom cX3_restFrom 4 none :: WALL) { frames := 2, cells := 0, slots := 0, locals := 47 } [13, 0, 0] none T_X3_restFrom := by
  refine Mt.mk (B := E_X3_restFrom) (by decide +kernel) (by decide) (fun _ _ _ hh => hh) ?_
  intro X Q e1 e2 e3 hC hN hT
  subst e1
  have hC : CF X cX3_restFrom RX3 WALL := hC
  have S_92 : ∀ (k2 : tK), Sd X 2 [(0, 13), (1, 0), (2, 0), (3, 0)] [] k2 → Sd X 92 [(0, 13), (1, 0), (2, 0), (3, 0)] [] (B_X3_restFrom_92 Q k2) := by
    intro k2 h2
    unfold B_X3_restFrom_92
    refine sd_iinc (Γ' := [(0, 13), (1, 0), (2, 0), (3, 0)]) hC dX3_restFrom_92 (by decide) (by rw [e2]; decide) (by decide) (?_ : Sd X 95 [(0, 13), (1, 0), (2, 0), (3, 0)] [] _)
    refine sd_goto (tgt := 2) hC dX3_restFrom_95 rfl (?_ : Sd X 2 [(0, 13), (1, 0), (2, 0), (3, 0)] [] _)
    exact Sd.weak (by decide) h2
  have S_91 : ∀ (k2 : tK), Sd X 2 [(0, 13), (1, 0), (2, 0), (3, 0)] [] k2 → Sd X 91 [(0, 13), (1, 0), (2, 0), (3, 0)] [0, 0, 100] (B_X3_restFrom_91 Q k2) := by
    intro k2 h2
    unfold B_X3_restFrom_91
    refine sd_iastore hC dX3_restFrom_91 (?_ : Sd X 92 [(0, 13), (1, 0), (2, 0), (3, 0)] [] _)
    exact Sd.weak (by decide) (S_92 k2 h2)
  have S_75 : ∀ (k2 : tK), Sd X 2 [(0, 13), (1, 0), (2, 0), (3, 0)] [] k2 → Sd X 75 [(0, 13), (1, 0), (2, 0), (3, 0)] [0, 100] (B_X3_restFrom_75 Q k2) := by
    intro k2 h2
    unfold B_X3_restFrom_75
    refine sd_ldc hC wl_3_188 dX3_restFrom_75 ⟨by decide, by decide⟩ (?_ : Sd X 77 [(0, 13), (1, 0), (2, 0), (3, 0)] [0, 0, 100] _)
    refine sd_goto (tgt := 91) hC dX3_restFrom_77 rfl (?_ : Sd X 91 [(0, 13), (1, 0), (2, 0), (3, 0)] [0, 0, 100] _)
    exact Sd.weak (by decide) (S_91 k2 h2)
  have S_2 : Sd X 2 [(0, 13), (1, 0), (2, 0), (3, 0)] [] (L_X3_restFrom_2 Q) := by
    unfold L_X3_restFrom_2
    refine Sd.loop (fun k2 h2 => ?_)
    refine sd_iload_n hC dX3_restFrom_2 rfl (by decide) (?_ : Sd X 3 [(0, 13), (1, 0), (2, 0), (3, 0)] [0] _)
    refine sd_aload_n hC 13 dX3_restFrom_3 rfl (by decide) (by decide) (?_ : Sd X 4 [(0, 13), (1, 0), (2, 0), (3, 0)] [13, 0] _)
    refine sd_get hC (ci := 3) (j := 0) (C := RX3) (T := TX3) (N := 6) rfl rfl (by decide) in_X3 wl_1_206 dX3_restFrom_4 (?_ : Sd X 7 [(0, 13), (1, 0), (2, 0), (3, 0)] [11, 0] _)
    refine sd_get hC (ci := 1) (j := 1) (C := RX1) (T := TX1) (N := 12) rfl rfl (by decide) in_X1 wl_1_84 dX3_restFrom_7 (?_ : Sd X 10 [(0, 13), (1, 0), (2, 0), (3, 0)] [0, 0] _)
    refine sd_icmp_ge (tgt := 98) hC dX3_restFrom_10 rfl (?_ : Sd X 98 [(0, 13), (1, 0), (2, 0), (3, 0)] [] _) (?_ : Sd X 13 [(0, 13), (1, 0), (2, 0), (3, 0)] [] _)
    · exact sd_return hC hT dX3_restFrom_98
    · refine sd_aload_n hC 13 dX3_restFrom_13 rfl (by decide) (by decide) (?_ : Sd X 14 [(0, 13), (1, 0), (2, 0), (3, 0)] [13] _)
      refine sd_get hC (ci := 3) (j := 0) (C := RX3) (T := TX3) (N := 6) rfl rfl (by decide) in_X3 wl_1_206 dX3_restFrom_14 (?_ : Sd X 17 [(0, 13), (1, 0), (2, 0), (3, 0)] [11] _)
      refine sd_get hC (ci := 1) (j := 6) (C := RX1) (T := TX1) (N := 12) rfl rfl (by decide) in_X1 wl_1_105 dX3_restFrom_17 (?_ : Sd X 20 [(0, 13), (1, 0), (2, 0), (3, 0)] [200] _)
      refine sd_iload_n hC dX3_restFrom_20 rfl (by decide) (?_ : Sd X 21 [(0, 13), (1, 0), (2, 0), (3, 0)] [0, 200] _)
      refine sd_aaload (e := 100) hC (List.mem_of_getElem? (i := 7) rfl) rfl rfl dX3_restFrom_21 (?_ : Sd X 22 [(0, 13), (1, 0), (2, 0), (3, 0)] [100] _)
      refine sd_iconst hC dX3_restFrom_22 ⟨by decide, by decide⟩ (?_ : Sd X 23 [(0, 13), (1, 0), (2, 0), (3, 0)] [0, 100] _)
      refine sd_iaload hC dX3_restFrom_23 (?_ : Sd X 24 [(0, 13), (1, 0), (2, 0), (3, 0)] [0] _)
      refine sd_iload_n hC dX3_restFrom_24 rfl (by decide) (?_ : Sd X 25 [(0, 13), (1, 0), (2, 0), (3, 0)] [0, 0] _)
      refine sd_icmp_ne (tgt := 92) hC dX3_restFrom_25 rfl (?_ : Sd X 92 [(0, 13), (1, 0), (2, 0), (3, 0)] [] _) (?_ : Sd X 28 [(0, 13), (1, 0), (2, 0), (3, 0)] [] _)
      · exact Sd.weak (by decide) (S_92 k2 h2)
      · refine sd_aload_n hC 13 dX3_restFrom_28 rfl (by decide) (by decide) (?_ : Sd X 29 [(0, 13), (1, 0), (2, 0), (3, 0)] [13] _)
        refine sd_get hC (ci := 3) (j := 5) (C := RX3) (T := TX3) (N := 6) rfl rfl (by decide) in_X3 wl_1_211 dX3_restFrom_29 (?_ : Sd X 32 [(0, 13), (1, 0), (2, 0), (3, 0)] [100] _)
        refine sd_iload_n hC dX3_restFrom_32 rfl (by decide) (?_ : Sd X 33 [(0, 13), (1, 0), (2, 0), (3, 0)] [0, 100] _)
        refine sd_aload_n hC 13 dX3_restFrom_33 rfl (by decide) (by decide) (?_ : Sd X 34 [(0, 13), (1, 0), (2, 0), (3, 0)] [13, 0, 100] _)
        refine sd_iload_n hC dX3_restFrom_34 rfl (by decide) (?_ : Sd X 35 [(0, 13), (1, 0), (2, 0), (3, 0)] [0, 13, 0, 100] _)
        refine sd_aload_n hC 13 dX3_restFrom_35 rfl (by decide) (by decide) (?_ : Sd X 36 [(0, 13), (1, 0), (2, 0), (3, 0)] [13, 0, 13, 0, 100] _)
        refine sd_get hC (ci := 3) (j := 0) (C := RX3) (T := TX3) (N := 6) rfl rfl (by decide) in_X3 wl_1_206 dX3_restFrom_36 (?_ : Sd X 39 [(0, 13), (1, 0), (2, 0), (3, 0)] [11, 0, 13, 0, 100] _)
        refine sd_get hC (ci := 1) (j := 6) (C := RX1) (T := TX1) (N := 12) rfl rfl (by decide) in_X1 wl_1_105 dX3_restFrom_39 (?_ : Sd X 42 [(0, 13), (1, 0), (2, 0), (3, 0)] [200, 0, 13, 0, 100] _)
        refine sd_iload_n hC dX3_restFrom_42 rfl (by decide) (?_ : Sd X 43 [(0, 13), (1, 0), (2, 0), (3, 0)] [0, 200, 0, 13, 0, 100] _)
        refine sd_aaload (e := 100) hC (List.mem_of_getElem? (i := 7) rfl) rfl rfl dX3_restFrom_43 (?_ : Sd X 44 [(0, 13), (1, 0), (2, 0), (3, 0)] [100, 0, 13, 0, 100] _)
        refine sd_iconst hC dX3_restFrom_44 ⟨by decide, by decide⟩ (?_ : Sd X 45 [(0, 13), (1, 0), (2, 0), (3, 0)] [0, 100, 0, 13, 0, 100] _)
        refine sd_iaload hC dX3_restFrom_45 (?_ : Sd X 46 [(0, 13), (1, 0), (2, 0), (3, 0)] [0, 0, 13, 0, 100] _)
        refine sd_inv0 (τ := [0, 100]) (τr := [0, 0]) (ci := 3) (q := (RX3, TX3, 6)) hC WG (M_X3_firstBest _) rfl rfl rfl rfl  rfl rfl wl_3_204 wl_3_206 wp_31 wl_1_5 wl_3_207 hd_X3_firstBest (by rw [e3]; decide) (by decide) dX3_restFrom_46 (?_ : Sd X 49 [(0, 13), (1, 0), (2, 0), (3, 0)] [0, 0, 100] _)
        refine sd_iastore hC dX3_restFrom_49 (?_ : Sd X 50 [(0, 13), (1, 0), (2, 0), (3, 0)] [] _)
        refine sd_aload_n hC 13 dX3_restFrom_50 rfl (by decide) (by decide) (?_ : Sd X 51 [(0, 13), (1, 0), (2, 0), (3, 0)] [13] _)
        refine sd_get hC (ci := 3) (j := 4) (C := RX3) (T := TX3) (N := 6) rfl rfl (by decide) in_X3 wl_1_210 dX3_restFrom_51 (?_ : Sd X 54 [(0, 13), (1, 0), (2, 0), (3, 0)] [100] _)
        refine sd_iload_n hC dX3_restFrom_54 rfl (by decide) (?_ : Sd X 55 [(0, 13), (1, 0), (2, 0), (3, 0)] [0, 100] _)
        refine sd_aload_n hC 13 dX3_restFrom_55 rfl (by decide) (by decide) (?_ : Sd X 56 [(0, 13), (1, 0), (2, 0), (3, 0)] [13, 0, 100] _)
        refine sd_get hC (ci := 3) (j := 3) (C := RX3) (T := TX3) (N := 6) rfl rfl (by decide) in_X3 wl_1_209 dX3_restFrom_56 (?_ : Sd X 59 [(0, 13), (1, 0), (2, 0), (3, 0)] [100, 0, 100] _)
        refine sd_iload_n hC dX3_restFrom_59 rfl (by decide) (?_ : Sd X 60 [(0, 13), (1, 0), (2, 0), (3, 0)] [0, 100, 0, 100] _)
        refine sd_iaload hC dX3_restFrom_60 (?_ : Sd X 61 [(0, 13), (1, 0), (2, 0), (3, 0)] [0, 0, 100] _)
        refine sd_ldc hC wl_3_188 dX3_restFrom_61 ⟨by decide, by decide⟩ (?_ : Sd X 63 [(0, 13), (1, 0), (2, 0), (3, 0)] [0, 0, 0, 100] _)
        refine sd_icmp_ge (tgt := 75) hC dX3_restFrom_63 rfl (?_ : Sd X 75 [(0, 13), (1, 0), (2, 0), (3, 0)] [0, 100] _) (?_ : Sd X 66 [(0, 13), (1, 0), (2, 0), (3, 0)] [0, 100] _)
        · exact Sd.weak (by decide) (S_75 k2 h2)
        · refine sd_aload_n hC 13 dX3_restFrom_66 rfl (by decide) (by decide) (?_ : Sd X 67 [(0, 13), (1, 0), (2, 0), (3, 0)] [13, 0, 100] _)
          refine sd_get hC (ci := 3) (j := 2) (C := RX3) (T := TX3) (N := 6) rfl rfl (by decide) in_X3 wl_1_208 dX3_restFrom_67 (?_ : Sd X 70 [(0, 13), (1, 0), (2, 0), (3, 0)] [0, 0, 100] _)
          refine sd_ldc hC wl_3_188 dX3_restFrom_70 ⟨by decide, by decide⟩ (?_ : Sd X 72 [(0, 13), (1, 0), (2, 0), (3, 0)] [0, 0, 0, 100] _)
          refine sd_icmp_lt (tgt := 80) hC dX3_restFrom_72 rfl (?_ : Sd X 80 [(0, 13), (1, 0), (2, 0), (3, 0)] [0, 100] _) (?_ : Sd X 75 [(0, 13), (1, 0), (2, 0), (3, 0)] [0, 100] _)
          · refine sd_aload_n hC 13 dX3_restFrom_80 rfl (by decide) (by decide) (?_ : Sd X 81 [(0, 13), (1, 0), (2, 0), (3, 0)] [13, 0, 100] _)
            refine sd_get hC (ci := 3) (j := 3) (C := RX3) (T := TX3) (N := 6) rfl rfl (by decide) in_X3 wl_1_209 dX3_restFrom_81 (?_ : Sd X 84 [(0, 13), (1, 0), (2, 0), (3, 0)] [100, 0, 100] _)
            refine sd_iload_n hC dX3_restFrom_84 rfl (by decide) (?_ : Sd X 85 [(0, 13), (1, 0), (2, 0), (3, 0)] [0, 100, 0, 100] _)
            refine sd_iaload hC dX3_restFrom_85 (?_ : Sd X 86 [(0, 13), (1, 0), (2, 0), (3, 0)] [0, 0, 100] _)
            refine sd_aload_n hC 13 dX3_restFrom_86 rfl (by decide) (by decide) (?_ : Sd X 87 [(0, 13), (1, 0), (2, 0), (3, 0)] [13, 0, 0, 100] _)
            refine sd_get hC (ci := 3) (j := 2) (C := RX3) (T := TX3) (N := 6) rfl rfl (by decide) in_X3 wl_1_208 dX3_restFrom_87 (?_ : Sd X 90 [(0, 13), (1, 0), (2, 0), (3, 0)] [0, 0, 0, 100] _)
            refine sd_iadd hC dX3_restFrom_90 (?_ : Sd X 91 [(0, 13), (1, 0), (2, 0), (3, 0)] [0, 0, 100] _)
            exact Sd.weak (by decide) (S_91 k2 h2)
          · exact Sd.weak (by decide) (S_75 k2 h2)
  refine (?_ : Sd X 0 [(0, 13), (1, 0), (2, 0)] [] (E_X3_restFrom Q))
  unfold E_X3_restFrom
  refine sd_iconst hC dX3_restFrom_0 ⟨by decide, by decide⟩ (?_ : Sd X 1 [(0, 13), (1, 0), (2, 0)] [0] _)
  refine sd_istore_n (Γ' := [(0, 13), (1, 0), (2, 0), (3, 0)]) hC dX3_restFrom_1 rfl (by rw [e2]; decide) (by decide) (?_ : Sd X 2 [(0, 13), (1, 0), (2, 0), (3, 0)] [] _)
  exact Sd.weak (by decide) (S_2)
theorem wl_1_207 : Cond.fieldLink RX3 77 "NarrowRings$Finder" "first" "I" ∈ WALL := tb1 (List.mem_of_getElem? (i := 207) rfl) rfl
theorem wl_3_196 : Cond.methodLink RX3 99 yX3_restFromLast ∈ WALL := tb3 (List.mem_of_getElem? (i := 196) rfl) rfl
theorem wl_3_198 : Cond.instanceMethod yX3_restFromLast ∈ WALL := tb3 (List.mem_of_getElem? (i := 198) rfl) rfl
theorem wp_29 : Cond.selects RX3 yX3_restFromLast yX3_restFromLast ∈ WALL := tbS (List.mem_of_getElem? (i := 29) rfl)
theorem wl_3_199 : Cond.code yX3_restFromLast cX3_restFromLast 4 none ∈ WALL := tb3 (List.mem_of_getElem? (i := 199) rfl) rfl
theorem wl_3_200 : Cond.methodLink RX3 103 yX3_restFrom ∈ WALL := tb3 (List.mem_of_getElem? (i := 200) rfl) rfl
theorem wl_3_202 : Cond.instanceMethod yX3_restFrom ∈ WALL := tb3 (List.mem_of_getElem? (i := 202) rfl) rfl
theorem wp_30 : Cond.selects RX3 yX3_restFrom yX3_restFrom ∈ WALL := tbS (List.mem_of_getElem? (i := 30) rfl)
theorem wl_3_203 : Cond.code yX3_restFrom cX3_restFrom 4 none ∈ WALL := tb3 (List.mem_of_getElem? (i := 203) rfl) rfl
theorem hd_X3_costOf : yX3_costOf.cls ≠ "java/lang/invoke/MethodHandle" ∧ yX3_costOf.cls ≠ "java/lang/invoke/VarHandle" ∧ (parseMethodDescriptor yX3_costOf.desc).map (fun d => d.parameters.length) = some 1 := by decide +kernel
set_option maxRecDepth 100000 in
set_option maxHeartbeats 4000000 in
theorem M_X3_costOf (l : Launch) : Mt l yX3_costOf (Cond.code yX3_costOf cX3_costOf 9 (some .int) :: WALL) { frames := 3, cells := 0, slots := 0, locals := 70 } [13, 100] (some 0) T_X3_costOf := by
  refine Mt.mk (B := E_X3_costOf) (by decide +kernel) (by decide) (fun _ _ _ hh => hh) ?_
  intro X Q e1 e2 e3 hC hN hT
  subst e1
  have hC : CF X cX3_costOf RX3 WALL := hC
  have S_84 : Sd X 84 [(0, 13), (1, 100), (2, 0), (3, 0), (4, 0), (5, 0), (6, 0), (7, 0), (8, 0)] [] (L_X3_costOf_84 Q) := by
    unfold L_X3_costOf_84
    refine Sd.loop (fun k84 h84 => ?_)
    refine sd_iload hC dX3_costOf_84 (by decide) (?_ : Sd X 86 [(0, 13), (1, 100), (2, 0), (3, 0), (4, 0), (5, 0), (6, 0), (7, 0), (8, 0)] [0] _)
    refine sd_iload hC dX3_costOf_86 (by decide) (?_ : Sd X 88 [(0, 13), (1, 100), (2, 0), (3, 0), (4, 0), (5, 0), (6, 0), (7, 0), (8, 0)] [0, 0] _)
    refine sd_iload hC dX3_costOf_88 (by decide) (?_ : Sd X 90 [(0, 13), (1, 100), (2, 0), (3, 0), (4, 0), (5, 0), (6, 0), (7, 0), (8, 0)] [0, 0, 0] _)
    refine sd_isub hC dX3_costOf_90 (?_ : Sd X 91 [(0, 13), (1, 100), (2, 0), (3, 0), (4, 0), (5, 0), (6, 0), (7, 0), (8, 0)] [0, 0] _)
    refine sd_iload hC dX3_costOf_91 (by decide) (?_ : Sd X 93 [(0, 13), (1, 100), (2, 0), (3, 0), (4, 0), (5, 0), (6, 0), (7, 0), (8, 0)] [0, 0, 0] _)
    refine sd_imul hC dX3_costOf_93 (?_ : Sd X 94 [(0, 13), (1, 100), (2, 0), (3, 0), (4, 0), (5, 0), (6, 0), (7, 0), (8, 0)] [0, 0] _)
    refine sd_icmp_gt (tgt := 125) hC dX3_costOf_94 rfl (?_ : Sd X 125 [(0, 13), (1, 100), (2, 0), (3, 0), (4, 0), (5, 0), (6, 0), (7, 0), (8, 0)] [] _) (?_ : Sd X 97 [(0, 13), (1, 100), (2, 0), (3, 0), (4, 0), (5, 0), (6, 0), (7, 0), (8, 0)] [] _)
    · refine sd_aload_n hC 13 dX3_costOf_125 rfl (by decide) (by decide) (?_ : Sd X 126 [(0, 13), (1, 100), (2, 0), (3, 0), (4, 0), (5, 0), (6, 0), (7, 0), (8, 0)] [13] _)
      refine sd_aload_n hC 13 dX3_costOf_126 rfl (by decide) (by decide) (?_ : Sd X 127 [(0, 13), (1, 100), (2, 0), (3, 0), (4, 0), (5, 0), (6, 0), (7, 0), (8, 0)] [13, 13] _)
      refine sd_iload hC dX3_costOf_127 (by decide) (?_ : Sd X 129 [(0, 13), (1, 100), (2, 0), (3, 0), (4, 0), (5, 0), (6, 0), (7, 0), (8, 0)] [0, 13, 13] _)
      refine sd_iload hC dX3_costOf_129 (by decide) (?_ : Sd X 131 [(0, 13), (1, 100), (2, 0), (3, 0), (4, 0), (5, 0), (6, 0), (7, 0), (8, 0)] [0, 0, 13, 13] _)
      refine sd_inv0 (τ := [13]) (τr := [0, 0]) (ci := 3) (q := (RX3, TX3, 6)) hC WG (M_X3_firstBest _) rfl rfl rfl rfl  rfl rfl wl_3_204 wl_3_206 wp_31 wl_1_5 wl_3_207 hd_X3_firstBest (by rw [e3]; decide) (by decide) dX3_costOf_131 (?_ : Sd X 134 [(0, 13), (1, 100), (2, 0), (3, 0), (4, 0), (5, 0), (6, 0), (7, 0), (8, 0)] [0, 13] _)
      refine sd_put hC (ci := 3) (j := 1) (C := RX3) (T := TX3) (N := 6) tyX3 tyX3_ok nmX3 rfl rfl (by decide) in_X3 rfl rfl wl_1_207 dX3_costOf_134 (?_ : Sd X 137 [(0, 13), (1, 100), (2, 0), (3, 0), (4, 0), (5, 0), (6, 0), (7, 0), (8, 0)] [] _)
      refine sd_aload_n hC 13 dX3_costOf_137 rfl (by decide) (by decide) (?_ : Sd X 138 [(0, 13), (1, 100), (2, 0), (3, 0), (4, 0), (5, 0), (6, 0), (7, 0), (8, 0)] [13] _)
      refine sd_get hC (ci := 3) (j := 2) (C := RX3) (T := TX3) (N := 6) rfl rfl (by decide) in_X3 wl_1_208 dX3_costOf_138 (?_ : Sd X 141 [(0, 13), (1, 100), (2, 0), (3, 0), (4, 0), (5, 0), (6, 0), (7, 0), (8, 0)] [0] _)
      exact sd_ireturn hC hT dX3_costOf_141
    · refine sd_aload_n hC 13 dX3_costOf_97 rfl (by decide) (by decide) (?_ : Sd X 98 [(0, 13), (1, 100), (2, 0), (3, 0), (4, 0), (5, 0), (6, 0), (7, 0), (8, 0)] [13] _)
      refine sd_iload hC dX3_costOf_98 (by decide) (?_ : Sd X 100 [(0, 13), (1, 100), (2, 0), (3, 0), (4, 0), (5, 0), (6, 0), (7, 0), (8, 0)] [0, 13] _)
      refine sd_iload hC dX3_costOf_100 (by decide) (?_ : Sd X 102 [(0, 13), (1, 100), (2, 0), (3, 0), (4, 0), (5, 0), (6, 0), (7, 0), (8, 0)] [0, 0, 13] _)
      refine sd_iload hC dX3_costOf_102 (by decide) (?_ : Sd X 104 [(0, 13), (1, 100), (2, 0), (3, 0), (4, 0), (5, 0), (6, 0), (7, 0), (8, 0)] [0, 0, 0, 13] _)
      refine sd_imul hC dX3_costOf_104 (?_ : Sd X 105 [(0, 13), (1, 100), (2, 0), (3, 0), (4, 0), (5, 0), (6, 0), (7, 0), (8, 0)] [0, 0, 13] _)
      refine sd_isub hC dX3_costOf_105 (?_ : Sd X 106 [(0, 13), (1, 100), (2, 0), (3, 0), (4, 0), (5, 0), (6, 0), (7, 0), (8, 0)] [0, 13] _)
      refine sd_iload hC dX3_costOf_106 (by decide) (?_ : Sd X 108 [(0, 13), (1, 100), (2, 0), (3, 0), (4, 0), (5, 0), (6, 0), (7, 0), (8, 0)] [0, 0, 13] _)
      refine sd_iload hC dX3_costOf_108 (by decide) (?_ : Sd X 110 [(0, 13), (1, 100), (2, 0), (3, 0), (4, 0), (5, 0), (6, 0), (7, 0), (8, 0)] [0, 0, 0, 13] _)
      refine sd_iconst hC dX3_costOf_110 ⟨by decide, by decide⟩ (?_ : Sd X 111 [(0, 13), (1, 100), (2, 0), (3, 0), (4, 0), (5, 0), (6, 0), (7, 0), (8, 0)] [0, 0, 0, 0, 13] _)
      refine sd_isub hC dX3_costOf_111 (?_ : Sd X 112 [(0, 13), (1, 100), (2, 0), (3, 0), (4, 0), (5, 0), (6, 0), (7, 0), (8, 0)] [0, 0, 0, 13] _)
      refine sd_iload hC dX3_costOf_112 (by decide) (?_ : Sd X 114 [(0, 13), (1, 100), (2, 0), (3, 0), (4, 0), (5, 0), (6, 0), (7, 0), (8, 0)] [0, 0, 0, 0, 13] _)
      refine sd_imul hC dX3_costOf_114 (?_ : Sd X 115 [(0, 13), (1, 100), (2, 0), (3, 0), (4, 0), (5, 0), (6, 0), (7, 0), (8, 0)] [0, 0, 0, 13] _)
      refine sd_isub hC dX3_costOf_115 (?_ : Sd X 116 [(0, 13), (1, 100), (2, 0), (3, 0), (4, 0), (5, 0), (6, 0), (7, 0), (8, 0)] [0, 0, 13] _)
      refine sd_inv0v (τ := []) (τr := [0, 0]) (ci := 3) (q := (RX3, TX3, 6)) hC WG (M_X3_restFrom _) rfl rfl rfl rfl  rfl rfl wl_3_200 wl_3_202 wp_30 wl_1_5 wl_3_203 hd_X3_restFrom (by rw [e3]; decide) (by decide) dX3_costOf_116 (?_ : Sd X 119 [(0, 13), (1, 100), (2, 0), (3, 0), (4, 0), (5, 0), (6, 0), (7, 0), (8, 0)] [] _)
      refine sd_iinc (Γ' := [(0, 13), (1, 100), (2, 0), (3, 0), (4, 0), (5, 0), (6, 0), (7, 0), (8, 0)]) hC dX3_costOf_119 (by decide) (by rw [e2]; decide) (by decide) (?_ : Sd X 122 [(0, 13), (1, 100), (2, 0), (3, 0), (4, 0), (5, 0), (6, 0), (7, 0), (8, 0)] [] _)
      refine sd_goto (tgt := 84) hC dX3_costOf_122 rfl (?_ : Sd X 84 [(0, 13), (1, 100), (2, 0), (3, 0), (4, 0), (5, 0), (6, 0), (7, 0), (8, 0)] [] _)
      exact Sd.weak (by decide) h84
  have S_70 : Sd X 70 [(0, 13), (1, 100), (2, 0), (3, 0), (4, 0), (5, 0), (6, 0)] [0] (B_X3_costOf_70 Q) := by
    unfold B_X3_costOf_70
    refine sd_istore (Γ' := [(0, 13), (1, 100), (2, 0), (3, 0), (4, 0), (5, 0), (6, 0), (7, 0)]) hC dX3_costOf_70 (by rw [e2]; decide) (by decide) (?_ : Sd X 72 [(0, 13), (1, 100), (2, 0), (3, 0), (4, 0), (5, 0), (6, 0), (7, 0)] [] _)
    refine sd_aload_n hC 13 dX3_costOf_72 rfl (by decide) (by decide) (?_ : Sd X 73 [(0, 13), (1, 100), (2, 0), (3, 0), (4, 0), (5, 0), (6, 0), (7, 0)] [13] _)
    refine sd_iload hC dX3_costOf_73 (by decide) (?_ : Sd X 75 [(0, 13), (1, 100), (2, 0), (3, 0), (4, 0), (5, 0), (6, 0), (7, 0)] [0, 13] _)
    refine sd_aload_n hC 100 dX3_costOf_75 rfl (by decide) (by decide) (?_ : Sd X 76 [(0, 13), (1, 100), (2, 0), (3, 0), (4, 0), (5, 0), (6, 0), (7, 0)] [100, 0, 13] _)
    refine sd_iconst hC dX3_costOf_76 ⟨by decide, by decide⟩ (?_ : Sd X 77 [(0, 13), (1, 100), (2, 0), (3, 0), (4, 0), (5, 0), (6, 0), (7, 0)] [0, 100, 0, 13] _)
    refine sd_iaload hC dX3_costOf_77 (?_ : Sd X 78 [(0, 13), (1, 100), (2, 0), (3, 0), (4, 0), (5, 0), (6, 0), (7, 0)] [0, 0, 13] _)
    refine sd_inv0v (τ := []) (τr := [0, 0]) (ci := 3) (q := (RX3, TX3, 6)) hC WG (M_X3_restFromLast _) rfl rfl rfl rfl  rfl rfl wl_3_196 wl_3_198 wp_29 wl_1_5 wl_3_199 hd_X3_restFromLast (by rw [e3]; decide) (by decide) dX3_costOf_78 (?_ : Sd X 81 [(0, 13), (1, 100), (2, 0), (3, 0), (4, 0), (5, 0), (6, 0), (7, 0)] [] _)
    refine sd_iconst hC dX3_costOf_81 ⟨by decide, by decide⟩ (?_ : Sd X 82 [(0, 13), (1, 100), (2, 0), (3, 0), (4, 0), (5, 0), (6, 0), (7, 0)] [0] _)
    refine sd_istore (Γ' := [(0, 13), (1, 100), (2, 0), (3, 0), (4, 0), (5, 0), (6, 0), (7, 0), (8, 0)]) hC dX3_costOf_82 (by rw [e2]; decide) (by decide) (?_ : Sd X 84 [(0, 13), (1, 100), (2, 0), (3, 0), (4, 0), (5, 0), (6, 0), (7, 0), (8, 0)] [] _)
    exact Sd.weak (by decide) (S_84)
  have S_56 : Sd X 56 [(0, 13), (1, 100), (2, 0), (3, 0), (4, 0), (5, 0)] [0] (B_X3_costOf_56 Q) := by
    unfold B_X3_costOf_56
    refine sd_istore (Γ' := [(0, 13), (1, 100), (2, 0), (3, 0), (4, 0), (5, 0), (6, 0)]) hC dX3_costOf_56 (by rw [e2]; decide) (by decide) (?_ : Sd X 58 [(0, 13), (1, 100), (2, 0), (3, 0), (4, 0), (5, 0), (6, 0)] [] _)
    refine sd_iload hC dX3_costOf_58 (by decide) (?_ : Sd X 60 [(0, 13), (1, 100), (2, 0), (3, 0), (4, 0), (5, 0), (6, 0)] [0] _)
    refine sd_if_le (tgt := 69) hC dX3_costOf_60 rfl (?_ : Sd X 69 [(0, 13), (1, 100), (2, 0), (3, 0), (4, 0), (5, 0), (6, 0)] [] _) (?_ : Sd X 63 [(0, 13), (1, 100), (2, 0), (3, 0), (4, 0), (5, 0), (6, 0)] [] _)
    · refine sd_iload_n hC dX3_costOf_69 rfl (by decide) (?_ : Sd X 70 [(0, 13), (1, 100), (2, 0), (3, 0), (4, 0), (5, 0), (6, 0)] [0] _)
      exact Sd.weak (by decide) (S_70)
    · refine sd_iload_n hC dX3_costOf_63 rfl (by decide) (?_ : Sd X 64 [(0, 13), (1, 100), (2, 0), (3, 0), (4, 0), (5, 0), (6, 0)] [0] _)
      refine sd_iconst hC dX3_costOf_64 ⟨by decide, by decide⟩ (?_ : Sd X 65 [(0, 13), (1, 100), (2, 0), (3, 0), (4, 0), (5, 0), (6, 0)] [0, 0] _)
      refine sd_isub hC dX3_costOf_65 (?_ : Sd X 66 [(0, 13), (1, 100), (2, 0), (3, 0), (4, 0), (5, 0), (6, 0)] [0] _)
      refine sd_goto (tgt := 70) hC dX3_costOf_66 rfl (?_ : Sd X 70 [(0, 13), (1, 100), (2, 0), (3, 0), (4, 0), (5, 0), (6, 0)] [0] _)
      exact Sd.weak (by decide) (S_70)
  have S_42 : Sd X 42 [(0, 13), (1, 100), (2, 0), (3, 0), (4, 0)] [0] (B_X3_costOf_42 Q) := by
    unfold B_X3_costOf_42
    refine sd_istore (Γ' := [(0, 13), (1, 100), (2, 0), (3, 0), (4, 0), (5, 0)]) hC dX3_costOf_42 (by rw [e2]; decide) (by decide) (?_ : Sd X 44 [(0, 13), (1, 100), (2, 0), (3, 0), (4, 0), (5, 0)] [] _)
    refine sd_iload hC dX3_costOf_44 (by decide) (?_ : Sd X 46 [(0, 13), (1, 100), (2, 0), (3, 0), (4, 0), (5, 0)] [0] _)
    refine sd_if_le (tgt := 53) hC dX3_costOf_46 rfl (?_ : Sd X 53 [(0, 13), (1, 100), (2, 0), (3, 0), (4, 0), (5, 0)] [] _) (?_ : Sd X 49 [(0, 13), (1, 100), (2, 0), (3, 0), (4, 0), (5, 0)] [] _)
    · refine sd_iload_n hC dX3_costOf_53 rfl (by decide) (?_ : Sd X 54 [(0, 13), (1, 100), (2, 0), (3, 0), (4, 0), (5, 0)] [0] _)
      refine sd_iconst hC dX3_costOf_54 ⟨by decide, by decide⟩ (?_ : Sd X 55 [(0, 13), (1, 100), (2, 0), (3, 0), (4, 0), (5, 0)] [0, 0] _)
      refine sd_isub hC dX3_costOf_55 (?_ : Sd X 56 [(0, 13), (1, 100), (2, 0), (3, 0), (4, 0), (5, 0)] [0] _)
      exact Sd.weak (by decide) (S_56)
    · refine sd_iload_n hC dX3_costOf_49 rfl (by decide) (?_ : Sd X 50 [(0, 13), (1, 100), (2, 0), (3, 0), (4, 0), (5, 0)] [0] _)
      refine sd_goto (tgt := 56) hC dX3_costOf_50 rfl (?_ : Sd X 56 [(0, 13), (1, 100), (2, 0), (3, 0), (4, 0), (5, 0)] [0] _)
      exact Sd.weak (by decide) (S_56)
  refine (?_ : Sd X 0 [(0, 13), (1, 100)] [] (E_X3_costOf Q))
  unfold E_X3_costOf
  refine sd_aload_n hC 100 dX3_costOf_0 rfl (by decide) (by decide) (?_ : Sd X 1 [(0, 13), (1, 100)] [100] _)
  refine sd_iconst hC dX3_costOf_1 ⟨by decide, by decide⟩ (?_ : Sd X 2 [(0, 13), (1, 100)] [0, 100] _)
  refine sd_iaload hC dX3_costOf_2 (?_ : Sd X 3 [(0, 13), (1, 100)] [0] _)
  refine sd_istore_n (Γ' := [(0, 13), (1, 100), (2, 0)]) hC dX3_costOf_3 rfl (by rw [e2]; decide) (by decide) (?_ : Sd X 4 [(0, 13), (1, 100), (2, 0)] [] _)
  refine sd_aload_n hC 100 dX3_costOf_4 rfl (by decide) (by decide) (?_ : Sd X 5 [(0, 13), (1, 100), (2, 0)] [100] _)
  refine sd_iconst hC dX3_costOf_5 ⟨by decide, by decide⟩ (?_ : Sd X 6 [(0, 13), (1, 100), (2, 0)] [0, 100] _)
  refine sd_iaload hC dX3_costOf_6 (?_ : Sd X 7 [(0, 13), (1, 100), (2, 0)] [0] _)
  refine sd_istore_n (Γ' := [(0, 13), (1, 100), (2, 0), (3, 0)]) hC dX3_costOf_7 rfl (by rw [e2]; decide) (by decide) (?_ : Sd X 8 [(0, 13), (1, 100), (2, 0), (3, 0)] [] _)
  refine sd_aload_n hC 100 dX3_costOf_8 rfl (by decide) (by decide) (?_ : Sd X 9 [(0, 13), (1, 100), (2, 0), (3, 0)] [100] _)
  refine sd_iconst hC dX3_costOf_9 ⟨by decide, by decide⟩ (?_ : Sd X 10 [(0, 13), (1, 100), (2, 0), (3, 0)] [0, 100] _)
  refine sd_iaload hC dX3_costOf_10 (?_ : Sd X 11 [(0, 13), (1, 100), (2, 0), (3, 0)] [0] _)
  refine sd_istore (Γ' := [(0, 13), (1, 100), (2, 0), (3, 0), (4, 0)]) hC dX3_costOf_11 (by rw [e2]; decide) (by decide) (?_ : Sd X 13 [(0, 13), (1, 100), (2, 0), (3, 0), (4, 0)] [] _)
  refine sd_aload_n hC 13 dX3_costOf_13 rfl (by decide) (by decide) (?_ : Sd X 14 [(0, 13), (1, 100), (2, 0), (3, 0), (4, 0)] [13] _)
  refine sd_iconst hC dX3_costOf_14 ⟨by decide, by decide⟩ (?_ : Sd X 15 [(0, 13), (1, 100), (2, 0), (3, 0), (4, 0)] [0, 13] _)
  refine sd_put hC (ci := 3) (j := 1) (C := RX3) (T := TX3) (N := 6) tyX3 tyX3_ok nmX3 rfl rfl (by decide) in_X3 rfl rfl wl_1_207 dX3_costOf_15 (?_ : Sd X 18 [(0, 13), (1, 100), (2, 0), (3, 0), (4, 0)] [] _)
  refine sd_iload_n hC dX3_costOf_18 rfl (by decide) (?_ : Sd X 19 [(0, 13), (1, 100), (2, 0), (3, 0), (4, 0)] [0] _)
  refine sd_iload_n hC dX3_costOf_19 rfl (by decide) (?_ : Sd X 20 [(0, 13), (1, 100), (2, 0), (3, 0), (4, 0)] [0, 0] _)
  refine sd_icmp_ne (tgt := 32) hC dX3_costOf_20 rfl (?_ : Sd X 32 [(0, 13), (1, 100), (2, 0), (3, 0), (4, 0)] [] _) (?_ : Sd X 23 [(0, 13), (1, 100), (2, 0), (3, 0), (4, 0)] [] _)
  · refine sd_iload_n hC dX3_costOf_32 rfl (by decide) (?_ : Sd X 33 [(0, 13), (1, 100), (2, 0), (3, 0), (4, 0)] [0] _)
    refine sd_iload_n hC dX3_costOf_33 rfl (by decide) (?_ : Sd X 34 [(0, 13), (1, 100), (2, 0), (3, 0), (4, 0)] [0, 0] _)
    refine sd_icmp_le (tgt := 41) hC dX3_costOf_34 rfl (?_ : Sd X 41 [(0, 13), (1, 100), (2, 0), (3, 0), (4, 0)] [] _) (?_ : Sd X 37 [(0, 13), (1, 100), (2, 0), (3, 0), (4, 0)] [] _)
    · refine sd_iconst hC dX3_costOf_41 ⟨by decide, by decide⟩ (?_ : Sd X 42 [(0, 13), (1, 100), (2, 0), (3, 0), (4, 0)] [0] _)
      exact Sd.weak (by decide) (S_42)
    · refine sd_iconst hC dX3_costOf_37 ⟨by decide, by decide⟩ (?_ : Sd X 38 [(0, 13), (1, 100), (2, 0), (3, 0), (4, 0)] [0] _)
      refine sd_goto (tgt := 42) hC dX3_costOf_38 rfl (?_ : Sd X 42 [(0, 13), (1, 100), (2, 0), (3, 0), (4, 0)] [0] _)
      exact Sd.weak (by decide) (S_42)
  · refine sd_iload hC dX3_costOf_23 (by decide) (?_ : Sd X 25 [(0, 13), (1, 100), (2, 0), (3, 0), (4, 0)] [0] _)
    refine sd_aload_n hC 100 dX3_costOf_25 rfl (by decide) (by decide) (?_ : Sd X 26 [(0, 13), (1, 100), (2, 0), (3, 0), (4, 0)] [100, 0] _)
    refine sd_iconst hC dX3_costOf_26 ⟨by decide, by decide⟩ (?_ : Sd X 27 [(0, 13), (1, 100), (2, 0), (3, 0), (4, 0)] [0, 100, 0] _)
    refine sd_iaload hC dX3_costOf_27 (?_ : Sd X 28 [(0, 13), (1, 100), (2, 0), (3, 0), (4, 0)] [0, 0] _)
    refine sd_invs (τ := []) (τs := [0, 0]) hC true "NarrowRings" WG (M_X8_apart _) rfl rfl rfl rfl (by decide) wl_3_194 wl_1_1 wl_3_195 hd_X8_apart (by rw [e3]; decide) (by decide) dX3_costOf_28 (?_ : Sd X 31 [(0, 13), (1, 100), (2, 0), (3, 0), (4, 0)] [0] _)
    exact sd_ireturn hC hT dX3_costOf_31
theorem wl_1_205 : Cond.methodLink RX3 3 Lib.objectInit ∈ WALL := tb1 (List.mem_of_getElem? (i := 205) rfl) rfl
theorem hd_X3_init : yX3_init.cls ≠ "java/lang/invoke/MethodHandle" ∧ yX3_init.cls ≠ "java/lang/invoke/VarHandle" ∧ (parseMethodDescriptor yX3_init.desc).map (fun d => d.parameters.length) = some 1 := by decide +kernel
set_option maxRecDepth 100000 in
set_option maxHeartbeats 4000000 in
theorem M_X3_init (l : Launch) : Mt l yX3_init (Cond.code yX3_init cX3_init 2 none :: WALL) { frames := 1, cells := 3, slots := 33, locals := 20 } [13, 11] none T_X3_init := by
  refine Mt.mk (B := E_X3_init) (by decide +kernel) (by decide) (fun _ _ _ hh => hh) ?_
  intro X Q e1 e2 e3 hC hN hT
  subst e1
  have hC : CF X cX3_init RX3 WALL := hC
  refine (?_ : Sd X 0 [(0, 13), (1, 11)] [] (E_X3_init Q))
  unfold E_X3_init
  refine sd_aload_n hC 13 dX3_init_0 rfl (by decide) (by decide) (?_ : Sd X 1 [(0, 13), (1, 11)] [13] _)
  refine sd_objInit hC (by decide) wl_1_205 wl_1_29 wl_1_30 (by rw [e3]; decide) (by decide) dX3_init_1 (?_ : Sd X 4 [(0, 13), (1, 11)] [] _)
  refine sd_aload_n hC 13 dX3_init_4 rfl (by decide) (by decide) (?_ : Sd X 5 [(0, 13), (1, 11)] [13] _)
  refine sd_aload_n hC 11 dX3_init_5 rfl (by decide) (by decide) (?_ : Sd X 6 [(0, 13), (1, 11)] [11, 13] _)
  refine sd_put hC (ci := 3) (j := 0) (C := RX3) (T := TX3) (N := 6) tyX3 tyX3_ok nmX3 rfl rfl (by decide) in_X3 rfl rfl wl_1_206 dX3_init_6 (?_ : Sd X 9 [(0, 13), (1, 11)] [] _)
  refine sd_aload_n hC 13 dX3_init_9 rfl (by decide) (by decide) (?_ : Sd X 10 [(0, 13), (1, 11)] [13] _)
  refine sd_bipush hC dX3_init_10 (by decide) (?_ : Sd X 12 [(0, 13), (1, 11)] [0, 13] _)
  refine sd_newa hC (e := 0) (List.mem_of_getElem? (i := 0) rfl) (fun C z => by cases z) rfl (by decide) wl_1_76 (by rw [e3]) (by rw [e3]) dX3_init_12 (?_ : Sd X 14 [(0, 13), (1, 11)] [100, 13] _)
  refine sd_putF hC (ci := 3) (j := 3) (C := RX3) (T := TX3) (N := 6) tyX3 tyX3_ok nmX3 rfl rfl (by decide) in_X3 rfl rfl rfl hN wl_1_209 dX3_init_14 (?_ : Sd X 17 [(0, 13), (1, 11)] [] _)
  refine sd_aload_n hC 13 dX3_init_17 rfl (by decide) (by decide) (?_ : Sd X 18 [(0, 13), (1, 11)] [13] _)
  refine sd_bipush hC dX3_init_18 (by decide) (?_ : Sd X 20 [(0, 13), (1, 11)] [0, 13] _)
  refine sd_newa hC (e := 0) (List.mem_of_getElem? (i := 0) rfl) (fun C z => by cases z) rfl (by decide) wl_1_76 (by rw [e3]) (by rw [e3]) dX3_init_20 (?_ : Sd X 22 [(0, 13), (1, 11)] [100, 13] _)
  refine sd_putF hC (ci := 3) (j := 4) (C := RX3) (T := TX3) (N := 6) tyX3 tyX3_ok nmX3 rfl rfl (by decide) in_X3 rfl rfl rfl hN wl_1_210 dX3_init_22 (?_ : Sd X 25 [(0, 13), (1, 11)] [] _)
  refine sd_aload_n hC 13 dX3_init_25 rfl (by decide) (by decide) (?_ : Sd X 26 [(0, 13), (1, 11)] [13] _)
  refine sd_bipush hC dX3_init_26 (by decide) (?_ : Sd X 28 [(0, 13), (1, 11)] [0, 13] _)
  refine sd_newa hC (e := 0) (List.mem_of_getElem? (i := 0) rfl) (fun C z => by cases z) rfl (by decide) wl_1_76 (by rw [e3]) (by rw [e3]) dX3_init_28 (?_ : Sd X 30 [(0, 13), (1, 11)] [100, 13] _)
  refine sd_putF hC (ci := 3) (j := 5) (C := RX3) (T := TX3) (N := 6) tyX3 tyX3_ok nmX3 rfl rfl (by decide) in_X3 rfl rfl rfl hN wl_1_211 dX3_init_30 (?_ : Sd X 33 [(0, 13), (1, 11)] [] _)
  exact sd_return hC hT dX3_init_33
theorem wl_1_232 : Cond.fieldLink RX7 15 "NarrowRings$Way" "found" "Z" ∈ WALL := tb1 (List.mem_of_getElem? (i := 232) rfl) rfl
theorem wl_1_238 : Cond.fieldLink RX7 19 "NarrowRings$Way" "pay" "I" ∈ WALL := tb1 (List.mem_of_getElem? (i := 238) rfl) rfl
theorem wl_2_1 : Cond.fieldLink RX7 23 "NarrowRings$Way" "hours" "I" ∈ WALL := tb2 (List.mem_of_getElem? (i := 1) rfl) rfl
theorem hd_X7_isBeatenBy : yX7_isBeatenBy.cls ≠ "java/lang/invoke/MethodHandle" ∧ yX7_isBeatenBy.cls ≠ "java/lang/invoke/VarHandle" ∧ (parseMethodDescriptor yX7_isBeatenBy.desc).map (fun d => d.parameters.length) = some 2 := by decide +kernel
set_option maxRecDepth 100000 in
set_option maxHeartbeats 4000000 in
theorem M_X7_isBeatenBy (l : Launch) : Mt l yX7_isBeatenBy (Cond.code yX7_isBeatenBy cX7_isBeatenBy 3 (some .boolean) :: WALL) { frames := 0, cells := 0, slots := 0, locals := 0 } [17, 0, 0] (some 0) T_X7_isBeatenBy := by
  refine Mt.mk (B := E_X7_isBeatenBy) (by decide +kernel) (by decide) (fun _ _ _ hh => hh) ?_
  intro X Q e1 e2 e3 hC hN hT
  subst e1
  have hC : CF X cX7_isBeatenBy RX7 WALL := hC
  have S_36 : Sd X 36 [(0, 17), (1, 0), (2, 0)] [0] (B_X7_isBeatenBy_36 Q) := by
    unfold B_X7_isBeatenBy_36
    exact sd_zreturn hC hT dX7_isBeatenBy_36
  have S_31 : Sd X 31 [(0, 17), (1, 0), (2, 0)] [] (B_X7_isBeatenBy_31 Q) := by
    unfold B_X7_isBeatenBy_31
    refine sd_iconst hC dX7_isBeatenBy_31 ⟨by decide, by decide⟩ (?_ : Sd X 32 [(0, 17), (1, 0), (2, 0)] [0] _)
    refine sd_goto (tgt := 36) hC dX7_isBeatenBy_32 rfl (?_ : Sd X 36 [(0, 17), (1, 0), (2, 0)] [0] _)
    exact Sd.weak (by decide) (S_36)
  have S_35 : Sd X 35 [(0, 17), (1, 0), (2, 0)] [] (B_X7_isBeatenBy_35 Q) := by
    unfold B_X7_isBeatenBy_35
    refine sd_iconst hC dX7_isBeatenBy_35 ⟨by decide, by decide⟩ (?_ : Sd X 36 [(0, 17), (1, 0), (2, 0)] [0] _)
    exact Sd.weak (by decide) (S_36)
  refine (?_ : Sd X 0 [(0, 17), (1, 0), (2, 0)] [] (E_X7_isBeatenBy Q))
  unfold E_X7_isBeatenBy
  refine sd_aload_n hC 17 dX7_isBeatenBy_0 rfl (by decide) (by decide) (?_ : Sd X 1 [(0, 17), (1, 0), (2, 0)] [17] _)
  refine sd_get hC (ci := 7) (j := 0) (C := RX7) (T := TX7) (N := 7) rfl rfl (by decide) in_X7 wl_1_232 dX7_isBeatenBy_1 (?_ : Sd X 4 [(0, 17), (1, 0), (2, 0)] [0] _)
  refine sd_if_eq (tgt := 31) hC dX7_isBeatenBy_4 rfl (?_ : Sd X 31 [(0, 17), (1, 0), (2, 0)] [] _) (?_ : Sd X 7 [(0, 17), (1, 0), (2, 0)] [] _)
  · exact Sd.weak (by decide) (S_31)
  · refine sd_iload_n hC dX7_isBeatenBy_7 rfl (by decide) (?_ : Sd X 8 [(0, 17), (1, 0), (2, 0)] [0] _)
    refine sd_aload_n hC 17 dX7_isBeatenBy_8 rfl (by decide) (by decide) (?_ : Sd X 9 [(0, 17), (1, 0), (2, 0)] [17, 0] _)
    refine sd_get hC (ci := 7) (j := 2) (C := RX7) (T := TX7) (N := 7) rfl rfl (by decide) in_X7 wl_1_238 dX7_isBeatenBy_9 (?_ : Sd X 12 [(0, 17), (1, 0), (2, 0)] [0, 0] _)
    refine sd_icmp_lt (tgt := 31) hC dX7_isBeatenBy_12 rfl (?_ : Sd X 31 [(0, 17), (1, 0), (2, 0)] [] _) (?_ : Sd X 15 [(0, 17), (1, 0), (2, 0)] [] _)
    · exact Sd.weak (by decide) (S_31)
    · refine sd_iload_n hC dX7_isBeatenBy_15 rfl (by decide) (?_ : Sd X 16 [(0, 17), (1, 0), (2, 0)] [0] _)
      refine sd_aload_n hC 17 dX7_isBeatenBy_16 rfl (by decide) (by decide) (?_ : Sd X 17 [(0, 17), (1, 0), (2, 0)] [17, 0] _)
      refine sd_get hC (ci := 7) (j := 2) (C := RX7) (T := TX7) (N := 7) rfl rfl (by decide) in_X7 wl_1_238 dX7_isBeatenBy_17 (?_ : Sd X 20 [(0, 17), (1, 0), (2, 0)] [0, 0] _)
      refine sd_icmp_ne (tgt := 35) hC dX7_isBeatenBy_20 rfl (?_ : Sd X 35 [(0, 17), (1, 0), (2, 0)] [] _) (?_ : Sd X 23 [(0, 17), (1, 0), (2, 0)] [] _)
      · exact Sd.weak (by decide) (S_35)
      · refine sd_iload_n hC dX7_isBeatenBy_23 rfl (by decide) (?_ : Sd X 24 [(0, 17), (1, 0), (2, 0)] [0] _)
        refine sd_aload_n hC 17 dX7_isBeatenBy_24 rfl (by decide) (by decide) (?_ : Sd X 25 [(0, 17), (1, 0), (2, 0)] [17, 0] _)
        refine sd_get hC (ci := 7) (j := 3) (C := RX7) (T := TX7) (N := 7) rfl rfl (by decide) in_X7 wl_2_1 dX7_isBeatenBy_25 (?_ : Sd X 28 [(0, 17), (1, 0), (2, 0)] [0, 0] _)
        refine sd_icmp_ge (tgt := 35) hC dX7_isBeatenBy_28 rfl (?_ : Sd X 35 [(0, 17), (1, 0), (2, 0)] [] _) (?_ : Sd X 31 [(0, 17), (1, 0), (2, 0)] [] _)
        · exact Sd.weak (by decide) (S_35)
        · exact Sd.weak (by decide) (S_31)
theorem wl_1_54 : Cond.fieldLink RX3 37 "NarrowRings$Thing" "loads" "I" ∈ WALL := tb1 (List.mem_of_getElem? (i := 54) rfl) rfl
theorem wl_3_212 : Cond.methodLink RX3 60 yX7_isBeatenBy ∈ WALL := tb3 (List.mem_of_getElem? (i := 212) rfl) rfl
theorem wl_3_213 : Cond.instanceMethod yX7_isBeatenBy ∈ WALL := tb3 (List.mem_of_getElem? (i := 213) rfl) rfl
theorem wl_3_214 : Cond.selects RX7 yX7_isBeatenBy yX7_isBeatenBy ∈ WALL := tb3 (List.mem_of_getElem? (i := 214) rfl) rfl
theorem wl_1_6 : Cond.initialized RX7 ∈ WALL := tb1 (List.mem_of_getElem? (i := 6) rfl) rfl
theorem wl_3_215 : Cond.code yX7_isBeatenBy cX7_isBeatenBy 3 (some .boolean) ∈ WALL := tb3 (List.mem_of_getElem? (i := 215) rfl) rfl
theorem wl_1_233 : Cond.fieldLink RX3 27 "NarrowRings$Way" "found" "Z" ∈ WALL := tb1 (List.mem_of_getElem? (i := 233) rfl) rfl
theorem wl_1_236 : Cond.fieldLink RX3 64 "NarrowRings$Way" "cut" "Z" ∈ WALL := tb1 (List.mem_of_getElem? (i := 236) rfl) rfl
theorem wl_1_239 : Cond.fieldLink RX3 67 "NarrowRings$Way" "pay" "I" ∈ WALL := tb1 (List.mem_of_getElem? (i := 239) rfl) rfl
theorem wl_2_2 : Cond.fieldLink RX3 70 "NarrowRings$Way" "hours" "I" ∈ WALL := tb2 (List.mem_of_getElem? (i := 2) rfl) rfl
theorem wl_2_5 : Cond.fieldLink RX3 73 "NarrowRings$Way" "loads" "I" ∈ WALL := tb2 (List.mem_of_getElem? (i := 5) rfl) rfl
theorem wl_2_7 : Cond.fieldLink RX3 74 "NarrowRings$Way" "gates" "I" ∈ WALL := tb2 (List.mem_of_getElem? (i := 7) rfl) rfl
theorem wl_2_11 : Cond.fieldLink RX3 80 "NarrowRings$Way" "gate" "[I" ∈ WALL := tb2 (List.mem_of_getElem? (i := 11) rfl) rfl
theorem hd_X3_keepIfBest : yX3_keepIfBest.cls ≠ "java/lang/invoke/MethodHandle" ∧ yX3_keepIfBest.cls ≠ "java/lang/invoke/VarHandle" ∧ (parseMethodDescriptor yX3_keepIfBest.desc).map (fun d => d.parameters.length) = some 4 := by decide +kernel
set_option maxRecDepth 100000 in
set_option maxHeartbeats 4000000 in
theorem M_X3_keepIfBest (l : Launch) : Mt l yX3_keepIfBest (Cond.code yX3_keepIfBest cX3_keepIfBest 8 none :: WALL) { frames := 1, cells := 0, slots := 0, locals := 22 } [13, 16, 0, 0, 17] none T_X3_keepIfBest := by
  refine Mt.mk (B := E_X3_keepIfBest) (by decide +kernel) (by decide) (fun _ _ _ hh => hh) ?_
  intro X Q e1 e2 e3 hC hN hT
  subst e1
  have hC : CF X cX3_keepIfBest RX3 WALL := hC
  have S_37 : Sd X 37 [(0, 13), (1, 16), (2, 0), (3, 0), (4, 17), (5, 0), (6, 0)] [] (B_X3_keepIfBest_37 Q) := by
    unfold B_X3_keepIfBest_37
    exact sd_return hC hT dX3_keepIfBest_37
  have S_141 : Sd X 141 [(0, 13), (1, 16), (2, 0), (3, 0), (4, 17), (5, 0), (6, 0), (7, 0)] [] (B_X3_keepIfBest_141 Q) := by
    unfold B_X3_keepIfBest_141
    exact sd_return hC hT dX3_keepIfBest_141
  have S_85 : Sd X 85 [(0, 13), (1, 16), (2, 0), (3, 0), (4, 17), (5, 0), (6, 0), (7, 0)] [] (L_X3_keepIfBest_85 Q) := by
    unfold L_X3_keepIfBest_85
    refine Sd.loop (fun k85 h85 => ?_)
    refine sd_iload hC dX3_keepIfBest_85 (by decide) (?_ : Sd X 87 [(0, 13), (1, 16), (2, 0), (3, 0), (4, 17), (5, 0), (6, 0), (7, 0)] [0] _)
    refine sd_iconst hC dX3_keepIfBest_87 ⟨by decide, by decide⟩ (?_ : Sd X 88 [(0, 13), (1, 16), (2, 0), (3, 0), (4, 17), (5, 0), (6, 0), (7, 0)] [0, 0] _)
    refine sd_icmp_eq (tgt := 141) hC dX3_keepIfBest_88 rfl (?_ : Sd X 141 [(0, 13), (1, 16), (2, 0), (3, 0), (4, 17), (5, 0), (6, 0), (7, 0)] [] _) (?_ : Sd X 91 [(0, 13), (1, 16), (2, 0), (3, 0), (4, 17), (5, 0), (6, 0), (7, 0)] [] _)
    · exact Sd.weak (by decide) (S_141)
    · refine sd_aload hC 17 dX3_keepIfBest_91 (by decide) (by decide) (?_ : Sd X 93 [(0, 13), (1, 16), (2, 0), (3, 0), (4, 17), (5, 0), (6, 0), (7, 0)] [17] _)
      refine sd_get hC (ci := 7) (j := 5) (C := RX7) (T := TX7) (N := 7) rfl rfl (by decide) in_X7 wl_2_7 dX3_keepIfBest_93 (?_ : Sd X 96 [(0, 13), (1, 16), (2, 0), (3, 0), (4, 17), (5, 0), (6, 0), (7, 0)] [0] _)
      refine sd_aload hC 17 dX3_keepIfBest_96 (by decide) (by decide) (?_ : Sd X 98 [(0, 13), (1, 16), (2, 0), (3, 0), (4, 17), (5, 0), (6, 0), (7, 0)] [17, 0] _)
      refine sd_get hC (ci := 7) (j := 6) (C := RX7) (T := TX7) (N := 7) rfl rfl (by decide) in_X7 wl_2_11 dX3_keepIfBest_98 (?_ : Sd X 101 [(0, 13), (1, 16), (2, 0), (3, 0), (4, 17), (5, 0), (6, 0), (7, 0)] [100, 0] _)
      refine sd_alen (e := 0) hC (List.mem_of_getElem? (i := 0) rfl) dX3_keepIfBest_101 (?_ : Sd X 102 [(0, 13), (1, 16), (2, 0), (3, 0), (4, 17), (5, 0), (6, 0), (7, 0)] [0, 0] _)
      refine sd_icmp_ge (tgt := 141) hC dX3_keepIfBest_102 rfl (?_ : Sd X 141 [(0, 13), (1, 16), (2, 0), (3, 0), (4, 17), (5, 0), (6, 0), (7, 0)] [] _) (?_ : Sd X 105 [(0, 13), (1, 16), (2, 0), (3, 0), (4, 17), (5, 0), (6, 0), (7, 0)] [] _)
      · exact Sd.weak (by decide) (S_141)
      · refine sd_aload hC 17 dX3_keepIfBest_105 (by decide) (by decide) (?_ : Sd X 107 [(0, 13), (1, 16), (2, 0), (3, 0), (4, 17), (5, 0), (6, 0), (7, 0)] [17] _)
        refine sd_get hC (ci := 7) (j := 6) (C := RX7) (T := TX7) (N := 7) rfl rfl (by decide) in_X7 wl_2_11 dX3_keepIfBest_107 (?_ : Sd X 110 [(0, 13), (1, 16), (2, 0), (3, 0), (4, 17), (5, 0), (6, 0), (7, 0)] [100] _)
        refine sd_aload hC 17 dX3_keepIfBest_110 (by decide) (by decide) (?_ : Sd X 112 [(0, 13), (1, 16), (2, 0), (3, 0), (4, 17), (5, 0), (6, 0), (7, 0)] [17, 100] _)
        refine sd_get hC (ci := 7) (j := 5) (C := RX7) (T := TX7) (N := 7) rfl rfl (by decide) in_X7 wl_2_7 dX3_keepIfBest_112 (?_ : Sd X 115 [(0, 13), (1, 16), (2, 0), (3, 0), (4, 17), (5, 0), (6, 0), (7, 0)] [0, 100] _)
        refine sd_iload hC dX3_keepIfBest_115 (by decide) (?_ : Sd X 117 [(0, 13), (1, 16), (2, 0), (3, 0), (4, 17), (5, 0), (6, 0), (7, 0)] [0, 0, 100] _)
        refine sd_iastore hC dX3_keepIfBest_117 (?_ : Sd X 118 [(0, 13), (1, 16), (2, 0), (3, 0), (4, 17), (5, 0), (6, 0), (7, 0)] [] _)
        refine sd_aload hC 17 dX3_keepIfBest_118 (by decide) (by decide) (?_ : Sd X 120 [(0, 13), (1, 16), (2, 0), (3, 0), (4, 17), (5, 0), (6, 0), (7, 0)] [17] _)
        refine sd_dup hC (by decide) dX3_keepIfBest_120 (?_ : Sd X 121 [(0, 13), (1, 16), (2, 0), (3, 0), (4, 17), (5, 0), (6, 0), (7, 0)] [17, 17] _)
        refine sd_get hC (ci := 7) (j := 5) (C := RX7) (T := TX7) (N := 7) rfl rfl (by decide) in_X7 wl_2_7 dX3_keepIfBest_121 (?_ : Sd X 124 [(0, 13), (1, 16), (2, 0), (3, 0), (4, 17), (5, 0), (6, 0), (7, 0)] [0, 17] _)
        refine sd_iconst hC dX3_keepIfBest_124 ⟨by decide, by decide⟩ (?_ : Sd X 125 [(0, 13), (1, 16), (2, 0), (3, 0), (4, 17), (5, 0), (6, 0), (7, 0)] [0, 0, 17] _)
        refine sd_iadd hC dX3_keepIfBest_125 (?_ : Sd X 126 [(0, 13), (1, 16), (2, 0), (3, 0), (4, 17), (5, 0), (6, 0), (7, 0)] [0, 17] _)
        refine sd_put hC (ci := 7) (j := 5) (C := RX7) (T := TX7) (N := 7) tyX7 tyX7_ok nmX7 rfl rfl (by decide) in_X7 rfl rfl wl_2_7 dX3_keepIfBest_126 (?_ : Sd X 129 [(0, 13), (1, 16), (2, 0), (3, 0), (4, 17), (5, 0), (6, 0), (7, 0)] [] _)
        refine sd_aload_n hC 13 dX3_keepIfBest_129 rfl (by decide) (by decide) (?_ : Sd X 130 [(0, 13), (1, 16), (2, 0), (3, 0), (4, 17), (5, 0), (6, 0), (7, 0)] [13] _)
        refine sd_get hC (ci := 3) (j := 5) (C := RX3) (T := TX3) (N := 6) rfl rfl (by decide) in_X3 wl_1_211 dX3_keepIfBest_130 (?_ : Sd X 133 [(0, 13), (1, 16), (2, 0), (3, 0), (4, 17), (5, 0), (6, 0), (7, 0)] [100] _)
        refine sd_iload hC dX3_keepIfBest_133 (by decide) (?_ : Sd X 135 [(0, 13), (1, 16), (2, 0), (3, 0), (4, 17), (5, 0), (6, 0), (7, 0)] [0, 100] _)
        refine sd_iaload hC dX3_keepIfBest_135 (?_ : Sd X 136 [(0, 13), (1, 16), (2, 0), (3, 0), (4, 17), (5, 0), (6, 0), (7, 0)] [0] _)
        refine sd_istore (Γ' := [(0, 13), (1, 16), (2, 0), (3, 0), (4, 17), (5, 0), (6, 0), (7, 0)]) hC dX3_keepIfBest_136 (by rw [e2]; decide) (by decide) (?_ : Sd X 138 [(0, 13), (1, 16), (2, 0), (3, 0), (4, 17), (5, 0), (6, 0), (7, 0)] [] _)
        refine sd_goto (tgt := 85) hC dX3_keepIfBest_138 rfl (?_ : Sd X 85 [(0, 13), (1, 16), (2, 0), (3, 0), (4, 17), (5, 0), (6, 0), (7, 0)] [] _)
        exact Sd.weak (by decide) h85
  refine (?_ : Sd X 0 [(0, 13), (1, 16), (2, 0), (3, 0), (4, 17)] [] (E_X3_keepIfBest Q))
  unfold E_X3_keepIfBest
  refine sd_iload_n hC dX3_keepIfBest_0 rfl (by decide) (?_ : Sd X 1 [(0, 13), (1, 16), (2, 0), (3, 0), (4, 17)] [0] _)
  refine sd_sipush hC dX3_keepIfBest_1 (by decide) (?_ : Sd X 4 [(0, 13), (1, 16), (2, 0), (3, 0), (4, 17)] [0, 0] _)
  refine sd_idiv hC dX3_keepIfBest_4 (?_ : Sd X 5 [(0, 13), (1, 16), (2, 0), (3, 0), (4, 17)] [0] _)
  refine sd_aload_n hC 16 dX3_keepIfBest_5 rfl (by decide) (by decide) (?_ : Sd X 6 [(0, 13), (1, 16), (2, 0), (3, 0), (4, 17)] [16, 0] _)
  refine sd_get hC (ci := 6) (j := 4) (C := RX6) (T := TX6) (N := 7) rfl rfl (by decide) in_X6 wl_1_54 dX3_keepIfBest_6 (?_ : Sd X 9 [(0, 13), (1, 16), (2, 0), (3, 0), (4, 17)] [0, 0] _)
  refine sd_imul hC dX3_keepIfBest_9 (?_ : Sd X 10 [(0, 13), (1, 16), (2, 0), (3, 0), (4, 17)] [0] _)
  refine sd_istore (Γ' := [(0, 13), (1, 16), (2, 0), (3, 0), (4, 17), (5, 0)]) hC dX3_keepIfBest_10 (by rw [e2]; decide) (by decide) (?_ : Sd X 12 [(0, 13), (1, 16), (2, 0), (3, 0), (4, 17), (5, 0)] [] _)
  refine sd_iload_n hC dX3_keepIfBest_12 rfl (by decide) (?_ : Sd X 13 [(0, 13), (1, 16), (2, 0), (3, 0), (4, 17), (5, 0)] [0] _)
  refine sd_sipush hC dX3_keepIfBest_13 (by decide) (?_ : Sd X 16 [(0, 13), (1, 16), (2, 0), (3, 0), (4, 17), (5, 0)] [0, 0] _)
  refine sd_irem hC dX3_keepIfBest_16 (?_ : Sd X 17 [(0, 13), (1, 16), (2, 0), (3, 0), (4, 17), (5, 0)] [0] _)
  refine sd_istore (Γ' := [(0, 13), (1, 16), (2, 0), (3, 0), (4, 17), (5, 0), (6, 0)]) hC dX3_keepIfBest_17 (by rw [e2]; decide) (by decide) (?_ : Sd X 19 [(0, 13), (1, 16), (2, 0), (3, 0), (4, 17), (5, 0), (6, 0)] [] _)
  refine sd_iload_n hC dX3_keepIfBest_19 rfl (by decide) (?_ : Sd X 20 [(0, 13), (1, 16), (2, 0), (3, 0), (4, 17), (5, 0), (6, 0)] [0] _)
  refine sd_ldc hC wl_3_188 dX3_keepIfBest_20 ⟨by decide, by decide⟩ (?_ : Sd X 22 [(0, 13), (1, 16), (2, 0), (3, 0), (4, 17), (5, 0), (6, 0)] [0, 0] _)
  refine sd_icmp_ge (tgt := 37) hC dX3_keepIfBest_22 rfl (?_ : Sd X 37 [(0, 13), (1, 16), (2, 0), (3, 0), (4, 17), (5, 0), (6, 0)] [] _) (?_ : Sd X 25 [(0, 13), (1, 16), (2, 0), (3, 0), (4, 17), (5, 0), (6, 0)] [] _)
  · exact Sd.weak (by decide) (S_37)
  · refine sd_aload hC 17 dX3_keepIfBest_25 (by decide) (by decide) (?_ : Sd X 27 [(0, 13), (1, 16), (2, 0), (3, 0), (4, 17), (5, 0), (6, 0)] [17] _)
    refine sd_iload hC dX3_keepIfBest_27 (by decide) (?_ : Sd X 29 [(0, 13), (1, 16), (2, 0), (3, 0), (4, 17), (5, 0), (6, 0)] [0, 17] _)
    refine sd_iload hC dX3_keepIfBest_29 (by decide) (?_ : Sd X 31 [(0, 13), (1, 16), (2, 0), (3, 0), (4, 17), (5, 0), (6, 0)] [0, 0, 17] _)
    refine sd_inv0 (τ := []) (τr := [0, 0]) (ci := 7) (q := (RX7, TX7, 7)) hC WG (M_X7_isBeatenBy _) rfl rfl rfl rfl  rfl rfl wl_3_212 wl_3_213 wl_3_214 wl_1_6 wl_3_215 hd_X7_isBeatenBy (by rw [e3]; decide) (by decide) dX3_keepIfBest_31 (?_ : Sd X 34 [(0, 13), (1, 16), (2, 0), (3, 0), (4, 17), (5, 0), (6, 0)] [0] _)
    refine sd_if_ne (tgt := 38) hC dX3_keepIfBest_34 rfl (?_ : Sd X 38 [(0, 13), (1, 16), (2, 0), (3, 0), (4, 17), (5, 0), (6, 0)] [] _) (?_ : Sd X 37 [(0, 13), (1, 16), (2, 0), (3, 0), (4, 17), (5, 0), (6, 0)] [] _)
    · refine sd_aload hC 17 dX3_keepIfBest_38 (by decide) (by decide) (?_ : Sd X 40 [(0, 13), (1, 16), (2, 0), (3, 0), (4, 17), (5, 0), (6, 0)] [17] _)
      refine sd_iconst hC dX3_keepIfBest_40 ⟨by decide, by decide⟩ (?_ : Sd X 41 [(0, 13), (1, 16), (2, 0), (3, 0), (4, 17), (5, 0), (6, 0)] [0, 17] _)
      refine sd_putz hC (ci := 7) (j := 0) (C := RX7) (T := TX7) (N := 7) tyX7 tyX7_ok nmX7 rfl rfl (by decide) in_X7 rfl rfl rfl wl_1_233 dX3_keepIfBest_41 (?_ : Sd X 44 [(0, 13), (1, 16), (2, 0), (3, 0), (4, 17), (5, 0), (6, 0)] [] _)
      refine sd_aload hC 17 dX3_keepIfBest_44 (by decide) (by decide) (?_ : Sd X 46 [(0, 13), (1, 16), (2, 0), (3, 0), (4, 17), (5, 0), (6, 0)] [17] _)
      refine sd_iload_n hC dX3_keepIfBest_46 rfl (by decide) (?_ : Sd X 47 [(0, 13), (1, 16), (2, 0), (3, 0), (4, 17), (5, 0), (6, 0)] [0, 17] _)
      refine sd_putz hC (ci := 7) (j := 1) (C := RX7) (T := TX7) (N := 7) tyX7 tyX7_ok nmX7 rfl rfl (by decide) in_X7 rfl rfl rfl wl_1_236 dX3_keepIfBest_47 (?_ : Sd X 50 [(0, 13), (1, 16), (2, 0), (3, 0), (4, 17), (5, 0), (6, 0)] [] _)
      refine sd_aload hC 17 dX3_keepIfBest_50 (by decide) (by decide) (?_ : Sd X 52 [(0, 13), (1, 16), (2, 0), (3, 0), (4, 17), (5, 0), (6, 0)] [17] _)
      refine sd_iload hC dX3_keepIfBest_52 (by decide) (?_ : Sd X 54 [(0, 13), (1, 16), (2, 0), (3, 0), (4, 17), (5, 0), (6, 0)] [0, 17] _)
      refine sd_put hC (ci := 7) (j := 2) (C := RX7) (T := TX7) (N := 7) tyX7 tyX7_ok nmX7 rfl rfl (by decide) in_X7 rfl rfl wl_1_239 dX3_keepIfBest_54 (?_ : Sd X 57 [(0, 13), (1, 16), (2, 0), (3, 0), (4, 17), (5, 0), (6, 0)] [] _)
      refine sd_aload hC 17 dX3_keepIfBest_57 (by decide) (by decide) (?_ : Sd X 59 [(0, 13), (1, 16), (2, 0), (3, 0), (4, 17), (5, 0), (6, 0)] [17] _)
      refine sd_iload hC dX3_keepIfBest_59 (by decide) (?_ : Sd X 61 [(0, 13), (1, 16), (2, 0), (3, 0), (4, 17), (5, 0), (6, 0)] [0, 17] _)
      refine sd_put hC (ci := 7) (j := 3) (C := RX7) (T := TX7) (N := 7) tyX7 tyX7_ok nmX7 rfl rfl (by decide) in_X7 rfl rfl wl_2_2 dX3_keepIfBest_61 (?_ : Sd X 64 [(0, 13), (1, 16), (2, 0), (3, 0), (4, 17), (5, 0), (6, 0)] [] _)
      refine sd_aload hC 17 dX3_keepIfBest_64 (by decide) (by decide) (?_ : Sd X 66 [(0, 13), (1, 16), (2, 0), (3, 0), (4, 17), (5, 0), (6, 0)] [17] _)
      refine sd_aload_n hC 16 dX3_keepIfBest_66 rfl (by decide) (by decide) (?_ : Sd X 67 [(0, 13), (1, 16), (2, 0), (3, 0), (4, 17), (5, 0), (6, 0)] [16, 17] _)
      refine sd_get hC (ci := 6) (j := 4) (C := RX6) (T := TX6) (N := 7) rfl rfl (by decide) in_X6 wl_1_54 dX3_keepIfBest_67 (?_ : Sd X 70 [(0, 13), (1, 16), (2, 0), (3, 0), (4, 17), (5, 0), (6, 0)] [0, 17] _)
      refine sd_put hC (ci := 7) (j := 4) (C := RX7) (T := TX7) (N := 7) tyX7 tyX7_ok nmX7 rfl rfl (by decide) in_X7 rfl rfl wl_2_5 dX3_keepIfBest_70 (?_ : Sd X 73 [(0, 13), (1, 16), (2, 0), (3, 0), (4, 17), (5, 0), (6, 0)] [] _)
      refine sd_aload hC 17 dX3_keepIfBest_73 (by decide) (by decide) (?_ : Sd X 75 [(0, 13), (1, 16), (2, 0), (3, 0), (4, 17), (5, 0), (6, 0)] [17] _)
      refine sd_iconst hC dX3_keepIfBest_75 ⟨by decide, by decide⟩ (?_ : Sd X 76 [(0, 13), (1, 16), (2, 0), (3, 0), (4, 17), (5, 0), (6, 0)] [0, 17] _)
      refine sd_put hC (ci := 7) (j := 5) (C := RX7) (T := TX7) (N := 7) tyX7 tyX7_ok nmX7 rfl rfl (by decide) in_X7 rfl rfl wl_2_7 dX3_keepIfBest_76 (?_ : Sd X 79 [(0, 13), (1, 16), (2, 0), (3, 0), (4, 17), (5, 0), (6, 0)] [] _)
      refine sd_aload_n hC 13 dX3_keepIfBest_79 rfl (by decide) (by decide) (?_ : Sd X 80 [(0, 13), (1, 16), (2, 0), (3, 0), (4, 17), (5, 0), (6, 0)] [13] _)
      refine sd_get hC (ci := 3) (j := 1) (C := RX3) (T := TX3) (N := 6) rfl rfl (by decide) in_X3 wl_1_207 dX3_keepIfBest_80 (?_ : Sd X 83 [(0, 13), (1, 16), (2, 0), (3, 0), (4, 17), (5, 0), (6, 0)] [0] _)
      refine sd_istore (Γ' := [(0, 13), (1, 16), (2, 0), (3, 0), (4, 17), (5, 0), (6, 0), (7, 0)]) hC dX3_keepIfBest_83 (by rw [e2]; decide) (by decide) (?_ : Sd X 85 [(0, 13), (1, 16), (2, 0), (3, 0), (4, 17), (5, 0), (6, 0), (7, 0)] [] _)
      exact Sd.weak (by decide) (S_85)
    · exact Sd.weak (by decide) (S_37)
theorem wl_3_161 : Cond.methodLink RX3 113 yX1_letsThrough ∈ WALL := tb3 (List.mem_of_getElem? (i := 161) rfl) rfl
theorem wl_3_178 : Cond.methodLink RX3 116 yX1_loadingPay ∈ WALL := tb3 (List.mem_of_getElem? (i := 178) rfl) rfl
theorem wl_3_179 : Cond.instanceMethod yX1_loadingPay ∈ WALL := tb3 (List.mem_of_getElem? (i := 179) rfl) rfl
theorem wl_3_180 : Cond.selects RX1 yX1_loadingPay yX1_loadingPay ∈ WALL := tb3 (List.mem_of_getElem? (i := 180) rfl) rfl
theorem wl_3_181 : Cond.code yX1_loadingPay cX1_loadingPay 3 (some .int) ∈ WALL := tb3 (List.mem_of_getElem? (i := 181) rfl) rfl
theorem wl_3_187 : Cond.methodLink RX3 120 yX1_loadingHours ∈ WALL := tb3 (List.mem_of_getElem? (i := 187) rfl) rfl
theorem hd_X3_priceGates : yX3_priceGates.cls ≠ "java/lang/invoke/MethodHandle" ∧ yX3_priceGates.cls ≠ "java/lang/invoke/VarHandle" ∧ (parseMethodDescriptor yX3_priceGates.desc).map (fun d => d.parameters.length) = some 1 := by decide +kernel
set_option maxRecDepth 100000 in
set_option maxHeartbeats 4000000 in
theorem M_X3_priceGates (l : Launch) : Mt l yX3_priceGates (Cond.code yX3_priceGates cX3_priceGates 4 none :: WALL) { frames := 3, cells := 0, slots := 0, locals := 74 } [13, 16] none T_X3_priceGates := by
  refine Mt.mk (B := E_X3_priceGates) (by decide +kernel) (by decide) (fun _ _ _ hh => hh) ?_
  intro X Q e1 e2 e3 hC hN hT
  subst e1
  have hC : CF X cX3_priceGates RX3 WALL := hC
  have S_60 : ∀ (k2 : tK), Sd X 2 [(0, 13), (1, 16), (2, 0)] [] k2 → Sd X 60 [(0, 13), (1, 16), (2, 0), (3, 0)] [0, 0, 100] (B_X3_priceGates_60 Q k2) := by
    intro k2 h2
    unfold B_X3_priceGates_60
    refine sd_iastore hC dX3_priceGates_60 (?_ : Sd X 61 [(0, 13), (1, 16), (2, 0), (3, 0)] [] _)
    refine sd_iinc (Γ' := [(0, 13), (1, 16), (2, 0), (3, 0)]) hC dX3_priceGates_61 (by decide) (by rw [e2]; decide) (by decide) (?_ : Sd X 64 [(0, 13), (1, 16), (2, 0), (3, 0)] [] _)
    refine sd_goto (tgt := 2) hC dX3_priceGates_64 rfl (?_ : Sd X 2 [(0, 13), (1, 16), (2, 0), (3, 0)] [] _)
    exact Sd.weak (by decide) h2
  have S_2 : Sd X 2 [(0, 13), (1, 16), (2, 0)] [] (L_X3_priceGates_2 Q) := by
    unfold L_X3_priceGates_2
    refine Sd.loop (fun k2 h2 => ?_)
    refine sd_iload_n hC dX3_priceGates_2 rfl (by decide) (?_ : Sd X 3 [(0, 13), (1, 16), (2, 0)] [0] _)
    refine sd_aload_n hC 13 dX3_priceGates_3 rfl (by decide) (by decide) (?_ : Sd X 4 [(0, 13), (1, 16), (2, 0)] [13, 0] _)
    refine sd_get hC (ci := 3) (j := 0) (C := RX3) (T := TX3) (N := 6) rfl rfl (by decide) in_X3 wl_1_206 dX3_priceGates_4 (?_ : Sd X 7 [(0, 13), (1, 16), (2, 0)] [11, 0] _)
    refine sd_get hC (ci := 1) (j := 1) (C := RX1) (T := TX1) (N := 12) rfl rfl (by decide) in_X1 wl_1_84 dX3_priceGates_7 (?_ : Sd X 10 [(0, 13), (1, 16), (2, 0)] [0, 0] _)
    refine sd_icmp_ge (tgt := 67) hC dX3_priceGates_10 rfl (?_ : Sd X 67 [(0, 13), (1, 16), (2, 0)] [] _) (?_ : Sd X 13 [(0, 13), (1, 16), (2, 0)] [] _)
    · exact sd_return hC hT dX3_priceGates_67
    · refine sd_aload_n hC 13 dX3_priceGates_13 rfl (by decide) (by decide) (?_ : Sd X 14 [(0, 13), (1, 16), (2, 0)] [13] _)
      refine sd_get hC (ci := 3) (j := 0) (C := RX3) (T := TX3) (N := 6) rfl rfl (by decide) in_X3 wl_1_206 dX3_priceGates_14 (?_ : Sd X 17 [(0, 13), (1, 16), (2, 0)] [11] _)
      refine sd_aload_n hC 16 dX3_priceGates_17 rfl (by decide) (by decide) (?_ : Sd X 18 [(0, 13), (1, 16), (2, 0)] [16, 11] _)
      refine sd_iload_n hC dX3_priceGates_18 rfl (by decide) (?_ : Sd X 19 [(0, 13), (1, 16), (2, 0)] [0, 16, 11] _)
      refine sd_inv0 (τ := []) (τr := [16, 0]) (ci := 1) (q := (RX1, TX1, 12)) hC WG (M_X1_letsThrough _) rfl rfl rfl rfl  rfl rfl wl_3_161 wl_3_162 wl_3_163 wl_1_2 wl_3_164 hd_X1_letsThrough (by rw [e3]; decide) (by decide) dX3_priceGates_19 (?_ : Sd X 22 [(0, 13), (1, 16), (2, 0)] [0] _)
      refine sd_istore_n (Γ' := [(0, 13), (1, 16), (2, 0), (3, 0)]) hC dX3_priceGates_22 rfl (by rw [e2]; decide) (by decide) (?_ : Sd X 23 [(0, 13), (1, 16), (2, 0), (3, 0)] [] _)
      refine sd_aload_n hC 13 dX3_priceGates_23 rfl (by decide) (by decide) (?_ : Sd X 24 [(0, 13), (1, 16), (2, 0), (3, 0)] [13] _)
      refine sd_get hC (ci := 3) (j := 3) (C := RX3) (T := TX3) (N := 6) rfl rfl (by decide) in_X3 wl_1_209 dX3_priceGates_24 (?_ : Sd X 27 [(0, 13), (1, 16), (2, 0), (3, 0)] [100] _)
      refine sd_iload_n hC dX3_priceGates_27 rfl (by decide) (?_ : Sd X 28 [(0, 13), (1, 16), (2, 0), (3, 0)] [0, 100] _)
      refine sd_iload_n hC dX3_priceGates_28 rfl (by decide) (?_ : Sd X 29 [(0, 13), (1, 16), (2, 0), (3, 0)] [0, 0, 100] _)
      refine sd_if_eq (tgt := 58) hC dX3_priceGates_29 rfl (?_ : Sd X 58 [(0, 13), (1, 16), (2, 0), (3, 0)] [0, 100] _) (?_ : Sd X 32 [(0, 13), (1, 16), (2, 0), (3, 0)] [0, 100] _)
      · refine sd_ldc hC wl_3_188 dX3_priceGates_58 ⟨by decide, by decide⟩ (?_ : Sd X 60 [(0, 13), (1, 16), (2, 0), (3, 0)] [0, 0, 100] _)
        exact Sd.weak (by decide) (S_60 k2 h2)
      · refine sd_aload_n hC 13 dX3_priceGates_32 rfl (by decide) (by decide) (?_ : Sd X 33 [(0, 13), (1, 16), (2, 0), (3, 0)] [13, 0, 100] _)
        refine sd_get hC (ci := 3) (j := 0) (C := RX3) (T := TX3) (N := 6) rfl rfl (by decide) in_X3 wl_1_206 dX3_priceGates_33 (?_ : Sd X 36 [(0, 13), (1, 16), (2, 0), (3, 0)] [11, 0, 100] _)
        refine sd_aload_n hC 16 dX3_priceGates_36 rfl (by decide) (by decide) (?_ : Sd X 37 [(0, 13), (1, 16), (2, 0), (3, 0)] [16, 11, 0, 100] _)
        refine sd_iload_n hC dX3_priceGates_37 rfl (by decide) (?_ : Sd X 38 [(0, 13), (1, 16), (2, 0), (3, 0)] [0, 16, 11, 0, 100] _)
        refine sd_inv0 (τ := [0, 100]) (τr := [16, 0]) (ci := 1) (q := (RX1, TX1, 12)) hC WG (M_X1_loadingPay _) rfl rfl rfl rfl  rfl rfl wl_3_178 wl_3_179 wl_3_180 wl_1_2 wl_3_181 hd_X1_loadingPay (by rw [e3]; decide) (by decide) dX3_priceGates_38 (?_ : Sd X 41 [(0, 13), (1, 16), (2, 0), (3, 0)] [0, 0, 100] _)
        refine sd_sipush hC dX3_priceGates_41 (by decide) (?_ : Sd X 44 [(0, 13), (1, 16), (2, 0), (3, 0)] [0, 0, 0, 100] _)
        refine sd_imul hC dX3_priceGates_44 (?_ : Sd X 45 [(0, 13), (1, 16), (2, 0), (3, 0)] [0, 0, 100] _)
        refine sd_aload_n hC 13 dX3_priceGates_45 rfl (by decide) (by decide) (?_ : Sd X 46 [(0, 13), (1, 16), (2, 0), (3, 0)] [13, 0, 0, 100] _)
        refine sd_get hC (ci := 3) (j := 0) (C := RX3) (T := TX3) (N := 6) rfl rfl (by decide) in_X3 wl_1_206 dX3_priceGates_46 (?_ : Sd X 49 [(0, 13), (1, 16), (2, 0), (3, 0)] [11, 0, 0, 100] _)
        refine sd_aload_n hC 16 dX3_priceGates_49 rfl (by decide) (by decide) (?_ : Sd X 50 [(0, 13), (1, 16), (2, 0), (3, 0)] [16, 11, 0, 0, 100] _)
        refine sd_iload_n hC dX3_priceGates_50 rfl (by decide) (?_ : Sd X 51 [(0, 13), (1, 16), (2, 0), (3, 0)] [0, 16, 11, 0, 0, 100] _)
        refine sd_inv0 (τ := [0, 0, 100]) (τr := [16, 0]) (ci := 1) (q := (RX1, TX1, 12)) hC WG (M_X1_loadingHours _) rfl rfl rfl rfl  rfl rfl wl_3_187 wl_3_183 wl_3_184 wl_1_2 wl_3_185 hd_X1_loadingHours (by rw [e3]; decide) (by decide) dX3_priceGates_51 (?_ : Sd X 54 [(0, 13), (1, 16), (2, 0), (3, 0)] [0, 0, 0, 100] _)
        refine sd_iadd hC dX3_priceGates_54 (?_ : Sd X 55 [(0, 13), (1, 16), (2, 0), (3, 0)] [0, 0, 100] _)
        refine sd_goto (tgt := 60) hC dX3_priceGates_55 rfl (?_ : Sd X 60 [(0, 13), (1, 16), (2, 0), (3, 0)] [0, 0, 100] _)
        exact Sd.weak (by decide) (S_60 k2 h2)
  refine (?_ : Sd X 0 [(0, 13), (1, 16)] [] (E_X3_priceGates Q))
  unfold E_X3_priceGates
  refine sd_iconst hC dX3_priceGates_0 ⟨by decide, by decide⟩ (?_ : Sd X 1 [(0, 13), (1, 16)] [0] _)
  refine sd_istore_n (Γ' := [(0, 13), (1, 16), (2, 0)]) hC dX3_priceGates_1 rfl (by rw [e2]; decide) (by decide) (?_ : Sd X 2 [(0, 13), (1, 16), (2, 0)] [] _)
  exact Sd.weak (by decide) (S_2)
theorem wl_3_131 : Cond.methodLink RX3 33 yX1_thing ∈ WALL := tb3 (List.mem_of_getElem? (i := 131) rfl) rfl
theorem wl_3_135 : Cond.methodLink RX3 43 yX3_allBear ∈ WALL := tb3 (List.mem_of_getElem? (i := 135) rfl) rfl
theorem wl_3_137 : Cond.instanceMethod yX3_allBear ∈ WALL := tb3 (List.mem_of_getElem? (i := 137) rfl) rfl
theorem wp_26 : Cond.selects RX3 yX3_allBear yX3_allBear ∈ WALL := tbS (List.mem_of_getElem? (i := 26) rfl)
theorem wl_3_138 : Cond.code yX3_allBear cX3_allBear 5 (some .boolean) ∈ WALL := tb3 (List.mem_of_getElem? (i := 138) rfl) rfl
theorem wl_3_157 : Cond.methodLink RX3 47 yX3_priceGates ∈ WALL := tb3 (List.mem_of_getElem? (i := 157) rfl) rfl
theorem wl_3_159 : Cond.instanceMethod yX3_priceGates ∈ WALL := tb3 (List.mem_of_getElem? (i := 159) rfl) rfl
theorem wp_27 : Cond.selects RX3 yX3_priceGates yX3_priceGates ∈ WALL := tbS (List.mem_of_getElem? (i := 27) rfl)
theorem wl_3_160 : Cond.code yX3_priceGates cX3_priceGates 4 none ∈ WALL := tb3 (List.mem_of_getElem? (i := 160) rfl) rfl
theorem wl_3_189 : Cond.methodLink RX3 51 yX3_costOf ∈ WALL := tb3 (List.mem_of_getElem? (i := 189) rfl) rfl
theorem wl_3_191 : Cond.instanceMethod yX3_costOf ∈ WALL := tb3 (List.mem_of_getElem? (i := 191) rfl) rfl
theorem wp_28 : Cond.selects RX3 yX3_costOf yX3_costOf ∈ WALL := tbS (List.mem_of_getElem? (i := 28) rfl)
theorem wl_3_192 : Cond.code yX3_costOf cX3_costOf 9 (some .int) ∈ WALL := tb3 (List.mem_of_getElem? (i := 192) rfl) rfl
theorem wl_3_208 : Cond.methodLink RX3 55 yX3_keepIfBest ∈ WALL := tb3 (List.mem_of_getElem? (i := 208) rfl) rfl
theorem wl_3_210 : Cond.instanceMethod yX3_keepIfBest ∈ WALL := tb3 (List.mem_of_getElem? (i := 210) rfl) rfl
theorem wp_32 : Cond.selects RX3 yX3_keepIfBest yX3_keepIfBest ∈ WALL := tbS (List.mem_of_getElem? (i := 32) rfl)
theorem wl_3_211 : Cond.code yX3_keepIfBest cX3_keepIfBest 8 none ∈ WALL := tb3 (List.mem_of_getElem? (i := 211) rfl) rfl
theorem hd_X3_seek : yX3_seek.cls ≠ "java/lang/invoke/MethodHandle" ∧ yX3_seek.cls ≠ "java/lang/invoke/VarHandle" ∧ (parseMethodDescriptor yX3_seek.desc).map (fun d => d.parameters.length) = some 3 := by decide +kernel
set_option maxRecDepth 100000 in
set_option maxHeartbeats 4000000 in
theorem M_X3_seek (l : Launch) : Mt l yX3_seek (Cond.code yX3_seek cX3_seek 7 none :: WALL) { frames := 4, cells := 0, slots := 0, locals := 98 } [13, 11, 100, 17] none T_X3_seek := by
  refine Mt.mk (B := E_X3_seek) (by decide +kernel) (by decide) (fun _ _ _ hh => hh) ?_
  intro X Q e1 e2 e3 hC hN hT
  subst e1
  have hC : CF X cX3_seek RX3 WALL := hC
  have S_89 : ∀ (k13 : tK), Sd X 13 [(0, 13), (1, 11), (2, 100), (3, 17), (4, 0)] [] k13 → Sd X 89 [(0, 13), (1, 11), (2, 100), (3, 17), (4, 0), (5, 0), (6, 16)] [] (B_X3_seek_89 Q k13) := by
    intro k13 h13
    unfold B_X3_seek_89
    refine sd_iinc (Γ' := [(0, 13), (1, 11), (2, 100), (3, 17), (4, 0), (5, 0), (6, 16)]) hC dX3_seek_89 (by decide) (by rw [e2]; decide) (by decide) (?_ : Sd X 92 [(0, 13), (1, 11), (2, 100), (3, 17), (4, 0), (5, 0), (6, 16)] [] _)
    refine sd_goto (tgt := 13) hC dX3_seek_92 rfl (?_ : Sd X 13 [(0, 13), (1, 11), (2, 100), (3, 17), (4, 0), (5, 0), (6, 16)] [] _)
    exact Sd.weak (by decide) h13
  have S_30 : ∀ (k13 : tK), Sd X 13 [(0, 13), (1, 11), (2, 100), (3, 17), (4, 0)] [] k13 → Sd X 30 [(0, 13), (1, 11), (2, 100), (3, 17), (4, 0)] [0] (B_X3_seek_30 Q k13) := by
    intro k13 h13
    unfold B_X3_seek_30
    refine sd_istore (Γ' := [(0, 13), (1, 11), (2, 100), (3, 17), (4, 0), (5, 0)]) hC dX3_seek_30 (by rw [e2]; decide) (by decide) (?_ : Sd X 32 [(0, 13), (1, 11), (2, 100), (3, 17), (4, 0), (5, 0)] [] _)
    refine sd_aload_n hC 13 dX3_seek_32 rfl (by decide) (by decide) (?_ : Sd X 33 [(0, 13), (1, 11), (2, 100), (3, 17), (4, 0), (5, 0)] [13] _)
    refine sd_get hC (ci := 3) (j := 0) (C := RX3) (T := TX3) (N := 6) rfl rfl (by decide) in_X3 wl_1_206 dX3_seek_33 (?_ : Sd X 36 [(0, 13), (1, 11), (2, 100), (3, 17), (4, 0), (5, 0)] [11] _)
    refine sd_aload_n hC 100 dX3_seek_36 rfl (by decide) (by decide) (?_ : Sd X 37 [(0, 13), (1, 11), (2, 100), (3, 17), (4, 0), (5, 0)] [100, 11] _)
    refine sd_iconst hC dX3_seek_37 ⟨by decide, by decide⟩ (?_ : Sd X 38 [(0, 13), (1, 11), (2, 100), (3, 17), (4, 0), (5, 0)] [0, 100, 11] _)
    refine sd_iaload hC dX3_seek_38 (?_ : Sd X 39 [(0, 13), (1, 11), (2, 100), (3, 17), (4, 0), (5, 0)] [0, 11] _)
    refine sd_iload hC dX3_seek_39 (by decide) (?_ : Sd X 41 [(0, 13), (1, 11), (2, 100), (3, 17), (4, 0), (5, 0)] [0, 0, 11] _)
    refine sd_inv0 (τ := []) (τr := [0, 0]) (ci := 1) (q := (RX1, TX1, 12)) hC WG (M_X1_thing _) rfl rfl rfl rfl  rfl rfl wl_3_131 wl_3_132 wl_3_133 wl_1_2 wl_3_134 hd_X1_thing (by rw [e3]; decide) (by decide) dX3_seek_41 (?_ : Sd X 44 [(0, 13), (1, 11), (2, 100), (3, 17), (4, 0), (5, 0)] [16] _)
    refine sd_astore (Γ' := [(0, 13), (1, 11), (2, 100), (3, 17), (4, 0), (5, 0), (6, 16)]) hC dX3_seek_44 (by decide) (by rw [e2]; decide) (by decide) (?_ : Sd X 46 [(0, 13), (1, 11), (2, 100), (3, 17), (4, 0), (5, 0), (6, 16)] [] _)
    refine sd_aload hC 16 dX3_seek_46 (by decide) (by decide) (?_ : Sd X 48 [(0, 13), (1, 11), (2, 100), (3, 17), (4, 0), (5, 0), (6, 16)] [16] _)
    refine sd_get hC (ci := 6) (j := 4) (C := RX6) (T := TX6) (N := 7) rfl rfl (by decide) in_X6 wl_1_54 dX3_seek_48 (?_ : Sd X 51 [(0, 13), (1, 11), (2, 100), (3, 17), (4, 0), (5, 0), (6, 16)] [0] _)
    refine sd_if_le (tgt := 89) hC dX3_seek_51 rfl (?_ : Sd X 89 [(0, 13), (1, 11), (2, 100), (3, 17), (4, 0), (5, 0), (6, 16)] [] _) (?_ : Sd X 54 [(0, 13), (1, 11), (2, 100), (3, 17), (4, 0), (5, 0), (6, 16)] [] _)
    · exact Sd.weak (by decide) (S_89 k13 h13)
    · refine sd_aload_n hC 13 dX3_seek_54 rfl (by decide) (by decide) (?_ : Sd X 55 [(0, 13), (1, 11), (2, 100), (3, 17), (4, 0), (5, 0), (6, 16)] [13] _)
      refine sd_aload hC 16 dX3_seek_55 (by decide) (by decide) (?_ : Sd X 57 [(0, 13), (1, 11), (2, 100), (3, 17), (4, 0), (5, 0), (6, 16)] [16, 13] _)
      refine sd_aload_n hC 100 dX3_seek_57 rfl (by decide) (by decide) (?_ : Sd X 58 [(0, 13), (1, 11), (2, 100), (3, 17), (4, 0), (5, 0), (6, 16)] [100, 16, 13] _)
      refine sd_iconst hC dX3_seek_58 ⟨by decide, by decide⟩ (?_ : Sd X 59 [(0, 13), (1, 11), (2, 100), (3, 17), (4, 0), (5, 0), (6, 16)] [0, 100, 16, 13] _)
      refine sd_iaload hC dX3_seek_59 (?_ : Sd X 60 [(0, 13), (1, 11), (2, 100), (3, 17), (4, 0), (5, 0), (6, 16)] [0, 16, 13] _)
      refine sd_aload_n hC 100 dX3_seek_60 rfl (by decide) (by decide) (?_ : Sd X 61 [(0, 13), (1, 11), (2, 100), (3, 17), (4, 0), (5, 0), (6, 16)] [100, 0, 16, 13] _)
      refine sd_iconst hC dX3_seek_61 ⟨by decide, by decide⟩ (?_ : Sd X 62 [(0, 13), (1, 11), (2, 100), (3, 17), (4, 0), (5, 0), (6, 16)] [0, 100, 0, 16, 13] _)
      refine sd_iaload hC dX3_seek_62 (?_ : Sd X 63 [(0, 13), (1, 11), (2, 100), (3, 17), (4, 0), (5, 0), (6, 16)] [0, 0, 16, 13] _)
      refine sd_inv0 (τ := []) (τr := [16, 0, 0]) (ci := 3) (q := (RX3, TX3, 6)) hC WG (M_X3_allBear _) rfl rfl rfl rfl  rfl rfl wl_3_135 wl_3_137 wp_26 wl_1_5 wl_3_138 hd_X3_allBear (by rw [e3]; decide) (by decide) dX3_seek_63 (?_ : Sd X 66 [(0, 13), (1, 11), (2, 100), (3, 17), (4, 0), (5, 0), (6, 16)] [0] _)
      refine sd_if_eq (tgt := 89) hC dX3_seek_66 rfl (?_ : Sd X 89 [(0, 13), (1, 11), (2, 100), (3, 17), (4, 0), (5, 0), (6, 16)] [] _) (?_ : Sd X 69 [(0, 13), (1, 11), (2, 100), (3, 17), (4, 0), (5, 0), (6, 16)] [] _)
      · exact Sd.weak (by decide) (S_89 k13 h13)
      · refine sd_aload_n hC 13 dX3_seek_69 rfl (by decide) (by decide) (?_ : Sd X 70 [(0, 13), (1, 11), (2, 100), (3, 17), (4, 0), (5, 0), (6, 16)] [13] _)
        refine sd_aload hC 16 dX3_seek_70 (by decide) (by decide) (?_ : Sd X 72 [(0, 13), (1, 11), (2, 100), (3, 17), (4, 0), (5, 0), (6, 16)] [16, 13] _)
        refine sd_inv0v (τ := []) (τr := [16]) (ci := 3) (q := (RX3, TX3, 6)) hC WG (M_X3_priceGates _) rfl rfl rfl rfl  rfl rfl wl_3_157 wl_3_159 wp_27 wl_1_5 wl_3_160 hd_X3_priceGates (by rw [e3]; decide) (by decide) dX3_seek_72 (?_ : Sd X 75 [(0, 13), (1, 11), (2, 100), (3, 17), (4, 0), (5, 0), (6, 16)] [] _)
        refine sd_aload_n hC 13 dX3_seek_75 rfl (by decide) (by decide) (?_ : Sd X 76 [(0, 13), (1, 11), (2, 100), (3, 17), (4, 0), (5, 0), (6, 16)] [13] _)
        refine sd_aload hC 16 dX3_seek_76 (by decide) (by decide) (?_ : Sd X 78 [(0, 13), (1, 11), (2, 100), (3, 17), (4, 0), (5, 0), (6, 16)] [16, 13] _)
        refine sd_iload hC dX3_seek_78 (by decide) (?_ : Sd X 80 [(0, 13), (1, 11), (2, 100), (3, 17), (4, 0), (5, 0), (6, 16)] [0, 16, 13] _)
        refine sd_aload_n hC 13 dX3_seek_80 rfl (by decide) (by decide) (?_ : Sd X 81 [(0, 13), (1, 11), (2, 100), (3, 17), (4, 0), (5, 0), (6, 16)] [13, 0, 16, 13] _)
        refine sd_aload_n hC 100 dX3_seek_81 rfl (by decide) (by decide) (?_ : Sd X 82 [(0, 13), (1, 11), (2, 100), (3, 17), (4, 0), (5, 0), (6, 16)] [100, 13, 0, 16, 13] _)
        refine sd_inv0 (τ := [0, 16, 13]) (τr := [100]) (ci := 3) (q := (RX3, TX3, 6)) hC WG (M_X3_costOf _) rfl rfl rfl rfl  rfl rfl wl_3_189 wl_3_191 wp_28 wl_1_5 wl_3_192 hd_X3_costOf (by rw [e3]; decide) (by decide) dX3_seek_82 (?_ : Sd X 85 [(0, 13), (1, 11), (2, 100), (3, 17), (4, 0), (5, 0), (6, 16)] [0, 0, 16, 13] _)
        refine sd_aload_n hC 17 dX3_seek_85 rfl (by decide) (by decide) (?_ : Sd X 86 [(0, 13), (1, 11), (2, 100), (3, 17), (4, 0), (5, 0), (6, 16)] [17, 0, 0, 16, 13] _)
        refine sd_inv0v (τ := []) (τr := [16, 0, 0, 17]) (ci := 3) (q := (RX3, TX3, 6)) hC WG (M_X3_keepIfBest _) rfl rfl rfl rfl  rfl rfl wl_3_208 wl_3_210 wp_32 wl_1_5 wl_3_211 hd_X3_keepIfBest (by rw [e3]; decide) (by decide) dX3_seek_86 (?_ : Sd X 89 [(0, 13), (1, 11), (2, 100), (3, 17), (4, 0), (5, 0), (6, 16)] [] _)
        exact Sd.weak (by decide) (S_89 k13 h13)
  have S_13 : Sd X 13 [(0, 13), (1, 11), (2, 100), (3, 17), (4, 0)] [] (L_X3_seek_13 Q) := by
    unfold L_X3_seek_13
    refine Sd.loop (fun k13 h13 => ?_)
    refine sd_iload hC dX3_seek_13 (by decide) (?_ : Sd X 15 [(0, 13), (1, 11), (2, 100), (3, 17), (4, 0)] [0] _)
    refine sd_iconst hC dX3_seek_15 ⟨by decide, by decide⟩ (?_ : Sd X 16 [(0, 13), (1, 11), (2, 100), (3, 17), (4, 0)] [0, 0] _)
    refine sd_icmp_ge (tgt := 95) hC dX3_seek_16 rfl (?_ : Sd X 95 [(0, 13), (1, 11), (2, 100), (3, 17), (4, 0)] [] _) (?_ : Sd X 19 [(0, 13), (1, 11), (2, 100), (3, 17), (4, 0)] [] _)
    · exact sd_return hC hT dX3_seek_95
    · refine sd_iload hC dX3_seek_19 (by decide) (?_ : Sd X 21 [(0, 13), (1, 11), (2, 100), (3, 17), (4, 0)] [0] _)
      refine sd_iconst hC dX3_seek_21 ⟨by decide, by decide⟩ (?_ : Sd X 22 [(0, 13), (1, 11), (2, 100), (3, 17), (4, 0)] [0, 0] _)
      refine sd_icmp_ne (tgt := 29) hC dX3_seek_22 rfl (?_ : Sd X 29 [(0, 13), (1, 11), (2, 100), (3, 17), (4, 0)] [] _) (?_ : Sd X 25 [(0, 13), (1, 11), (2, 100), (3, 17), (4, 0)] [] _)
      · refine sd_iconst hC dX3_seek_29 ⟨by decide, by decide⟩ (?_ : Sd X 30 [(0, 13), (1, 11), (2, 100), (3, 17), (4, 0)] [0] _)
        exact Sd.weak (by decide) (S_30 k13 h13)
      · refine sd_iconst hC dX3_seek_25 ⟨by decide, by decide⟩ (?_ : Sd X 26 [(0, 13), (1, 11), (2, 100), (3, 17), (4, 0)] [0] _)
        refine sd_goto (tgt := 30) hC dX3_seek_26 rfl (?_ : Sd X 30 [(0, 13), (1, 11), (2, 100), (3, 17), (4, 0)] [0] _)
        exact Sd.weak (by decide) (S_30 k13 h13)
  refine (?_ : Sd X 0 [(0, 13), (1, 11), (2, 100), (3, 17)] [] (E_X3_seek Q))
  unfold E_X3_seek
  refine sd_aload_n hC 13 dX3_seek_0 rfl (by decide) (by decide) (?_ : Sd X 1 [(0, 13), (1, 11), (2, 100), (3, 17)] [13] _)
  refine sd_aload_n hC 11 dX3_seek_1 rfl (by decide) (by decide) (?_ : Sd X 2 [(0, 13), (1, 11), (2, 100), (3, 17)] [11, 13] _)
  refine sd_put hC (ci := 3) (j := 0) (C := RX3) (T := TX3) (N := 6) tyX3 tyX3_ok nmX3 rfl rfl (by decide) in_X3 rfl rfl wl_1_206 dX3_seek_2 (?_ : Sd X 5 [(0, 13), (1, 11), (2, 100), (3, 17)] [] _)
  refine sd_aload_n hC 17 dX3_seek_5 rfl (by decide) (by decide) (?_ : Sd X 6 [(0, 13), (1, 11), (2, 100), (3, 17)] [17] _)
  refine sd_iconst hC dX3_seek_6 ⟨by decide, by decide⟩ (?_ : Sd X 7 [(0, 13), (1, 11), (2, 100), (3, 17)] [0, 17] _)
  refine sd_putz hC (ci := 7) (j := 0) (C := RX7) (T := TX7) (N := 7) tyX7 tyX7_ok nmX7 rfl rfl (by decide) in_X7 rfl rfl rfl wl_1_233 dX3_seek_7 (?_ : Sd X 10 [(0, 13), (1, 11), (2, 100), (3, 17)] [] _)
  refine sd_iconst hC dX3_seek_10 ⟨by decide, by decide⟩ (?_ : Sd X 11 [(0, 13), (1, 11), (2, 100), (3, 17)] [0] _)
  refine sd_istore (Γ' := [(0, 13), (1, 11), (2, 100), (3, 17), (4, 0)]) hC dX3_seek_11 (by rw [e2]; decide) (by decide) (?_ : Sd X 13 [(0, 13), (1, 11), (2, 100), (3, 17), (4, 0)] [] _)
  exact Sd.weak (by decide) (S_13)
theorem wl_1_162 : Cond.fieldLink RX4 44 "NarrowRings$Reader" "fault" "I" ∈ WALL := tb1 (List.mem_of_getElem? (i := 162) rfl) rfl
theorem wl_1_152 : Cond.fieldLink RX4 47 "NarrowRings$Reader" "place" "I" ∈ WALL := tb1 (List.mem_of_getElem? (i := 152) rfl) rfl
theorem hd_X4_flaw : yX4_flaw.cls ≠ "java/lang/invoke/MethodHandle" ∧ yX4_flaw.cls ≠ "java/lang/invoke/VarHandle" ∧ (parseMethodDescriptor yX4_flaw.desc).map (fun d => d.parameters.length) = some 2 := by decide +kernel
set_option maxRecDepth 100000 in
set_option maxHeartbeats 4000000 in
theorem M_X4_flaw (l : Launch) : Mt l yX4_flaw (Cond.code yX4_flaw cX4_flaw 3 (some .boolean) :: WALL) { frames := 0, cells := 0, slots := 0, locals := 0 } [14, 0, 0] (some 0) T_X4_flaw := by
  refine Mt.mk (B := E_X4_flaw) (by decide +kernel) (by decide) (fun _ _ _ hh => hh) ?_
  intro X Q e1 e2 e3 hC hN hT
  subst e1
  have hC : CF X cX4_flaw RX4 WALL := hC
  refine (?_ : Sd X 0 [(0, 14), (1, 0), (2, 0)] [] (E_X4_flaw Q))
  unfold E_X4_flaw
  refine sd_aload_n hC 14 dX4_flaw_0 rfl (by decide) (by decide) (?_ : Sd X 1 [(0, 14), (1, 0), (2, 0)] [14] _)
  refine sd_iload_n hC dX4_flaw_1 rfl (by decide) (?_ : Sd X 2 [(0, 14), (1, 0), (2, 0)] [0, 14] _)
  refine sd_put hC (ci := 4) (j := 9) (C := RX4) (T := TX4) (N := 15) tyX4 tyX4_ok nmX4 rfl rfl (by decide) in_X4 rfl rfl wl_1_162 dX4_flaw_2 (?_ : Sd X 5 [(0, 14), (1, 0), (2, 0)] [] _)
  refine sd_aload_n hC 14 dX4_flaw_5 rfl (by decide) (by decide) (?_ : Sd X 6 [(0, 14), (1, 0), (2, 0)] [14] _)
  refine sd_iload_n hC dX4_flaw_6 rfl (by decide) (?_ : Sd X 7 [(0, 14), (1, 0), (2, 0)] [0, 14] _)
  refine sd_put hC (ci := 4) (j := 0) (C := RX4) (T := TX4) (N := 15) tyX4 tyX4_ok nmX4 rfl rfl (by decide) in_X4 rfl rfl wl_1_152 dX4_flaw_7 (?_ : Sd X 10 [(0, 14), (1, 0), (2, 0)] [] _)
  refine sd_iconst hC dX4_flaw_10 ⟨by decide, by decide⟩ (?_ : Sd X 11 [(0, 14), (1, 0), (2, 0)] [0] _)
  exact sd_zreturn hC hT dX4_flaw_11
theorem wl_1_151 : Cond.methodLink RX4 5 Lib.objectInit ∈ WALL := tb1 (List.mem_of_getElem? (i := 151) rfl) rfl
theorem wl_1_154 : Cond.fieldLink RX4 11 "NarrowRings$Reader" "text" "[I" ∈ WALL := tb1 (List.mem_of_getElem? (i := 154) rfl) rfl
theorem wl_1_163 : Cond.fieldLink RX4 17 "NarrowRings$Reader" "into" "LNarrowRings$City;" ∈ WALL := tb1 (List.mem_of_getElem? (i := 163) rfl) rfl
theorem wl_1_164 : Cond.fieldLink RX4 21 "NarrowRings$Reader" "name" "[J" ∈ WALL := tb1 (List.mem_of_getElem? (i := 164) rfl) rfl
theorem wl_1_165 : Cond.fieldLink RX4 25 "NarrowRings$Reader" "goodOf" "[I" ∈ WALL := tb1 (List.mem_of_getElem? (i := 165) rfl) rfl
theorem wl_1_167 : Cond.fieldLink RX4 28 "NarrowRings$Reader" "measure" "[I" ∈ WALL := tb1 (List.mem_of_getElem? (i := 167) rfl) rfl
theorem hd_X4_init : yX4_init.cls ≠ "java/lang/invoke/MethodHandle" ∧ yX4_init.cls ≠ "java/lang/invoke/VarHandle" ∧ (parseMethodDescriptor yX4_init.desc).map (fun d => d.parameters.length) = some 2 := by decide +kernel
set_option maxRecDepth 100000 in
set_option maxHeartbeats 4000000 in
theorem M_X4_init (l : Launch) : Mt l yX4_init (Cond.code yX4_init cX4_init 3 none :: WALL) { frames := 1, cells := 3, slots := 74, locals := 20 } [14, 100, 11] none T_X4_init := by
  refine Mt.mk (B := E_X4_init) (by decide +kernel) (by decide) (fun _ _ _ hh => hh) ?_
  intro X Q e1 e2 e3 hC hN hT
  subst e1
  have hC : CF X cX4_init RX4 WALL := hC
  refine (?_ : Sd X 0 [(0, 14), (1, 100), (2, 11)] [] (E_X4_init Q))
  unfold E_X4_init
  refine sd_aload_n hC 14 dX4_init_0 rfl (by decide) (by decide) (?_ : Sd X 1 [(0, 14), (1, 100), (2, 11)] [14] _)
  refine sd_objInit hC (by decide) wl_1_151 wl_1_29 wl_1_30 (by rw [e3]; decide) (by decide) dX4_init_1 (?_ : Sd X 4 [(0, 14), (1, 100), (2, 11)] [] _)
  refine sd_aload_n hC 14 dX4_init_4 rfl (by decide) (by decide) (?_ : Sd X 5 [(0, 14), (1, 100), (2, 11)] [14] _)
  refine sd_aload_n hC 100 dX4_init_5 rfl (by decide) (by decide) (?_ : Sd X 6 [(0, 14), (1, 100), (2, 11)] [100, 14] _)
  refine sd_putF hC (ci := 4) (j := 1) (C := RX4) (T := TX4) (N := 15) tyX4 tyX4_ok nmX4 rfl rfl (by decide) in_X4 rfl rfl rfl hN wl_1_154 dX4_init_6 (?_ : Sd X 9 [(0, 14), (1, 100), (2, 11)] [] _)
  refine sd_aload_n hC 14 dX4_init_9 rfl (by decide) (by decide) (?_ : Sd X 10 [(0, 14), (1, 100), (2, 11)] [14] _)
  refine sd_aload_n hC 11 dX4_init_10 rfl (by decide) (by decide) (?_ : Sd X 11 [(0, 14), (1, 100), (2, 11)] [11, 14] _)
  refine sd_put hC (ci := 4) (j := 10) (C := RX4) (T := TX4) (N := 15) tyX4 tyX4_ok nmX4 rfl rfl (by decide) in_X4 rfl rfl wl_1_163 dX4_init_11 (?_ : Sd X 14 [(0, 14), (1, 100), (2, 11)] [] _)
  refine sd_aload_n hC 14 dX4_init_14 rfl (by decide) (by decide) (?_ : Sd X 15 [(0, 14), (1, 100), (2, 11)] [14] _)
  refine sd_bipush hC dX4_init_15 (by decide) (?_ : Sd X 17 [(0, 14), (1, 100), (2, 11)] [0, 14] _)
  refine sd_newa hC (e := 1) (List.mem_of_getElem? (i := 1) rfl) (fun C z => by cases z) rfl (by decide) wl_1_199 (by rw [e3]) (by rw [e3]) dX4_init_17 (?_ : Sd X 19 [(0, 14), (1, 100), (2, 11)] [101, 14] _)
  refine sd_putF hC (ci := 4) (j := 11) (C := RX4) (T := TX4) (N := 15) tyX4 tyX4_ok nmX4 rfl rfl (by decide) in_X4 rfl rfl rfl hN wl_1_164 dX4_init_19 (?_ : Sd X 22 [(0, 14), (1, 100), (2, 11)] [] _)
  refine sd_aload_n hC 14 dX4_init_22 rfl (by decide) (by decide) (?_ : Sd X 23 [(0, 14), (1, 100), (2, 11)] [14] _)
  refine sd_bipush hC dX4_init_23 (by decide) (?_ : Sd X 25 [(0, 14), (1, 100), (2, 11)] [0, 14] _)
  refine sd_newa hC (e := 0) (List.mem_of_getElem? (i := 0) rfl) (fun C z => by cases z) rfl (by decide) wl_1_76 (by rw [e3]) (by rw [e3]) dX4_init_25 (?_ : Sd X 27 [(0, 14), (1, 100), (2, 11)] [100, 14] _)
  refine sd_putF hC (ci := 4) (j := 12) (C := RX4) (T := TX4) (N := 15) tyX4 tyX4_ok nmX4 rfl rfl (by decide) in_X4 rfl rfl rfl hN wl_1_165 dX4_init_27 (?_ : Sd X 30 [(0, 14), (1, 100), (2, 11)] [] _)
  refine sd_aload_n hC 14 dX4_init_30 rfl (by decide) (by decide) (?_ : Sd X 31 [(0, 14), (1, 100), (2, 11)] [14] _)
  refine sd_iconst hC dX4_init_31 ⟨by decide, by decide⟩ (?_ : Sd X 32 [(0, 14), (1, 100), (2, 11)] [0, 14] _)
  refine sd_newa hC (e := 0) (List.mem_of_getElem? (i := 0) rfl) (fun C z => by cases z) rfl (by decide) wl_1_76 (by rw [e3]) (by rw [e3]) dX4_init_32 (?_ : Sd X 34 [(0, 14), (1, 100), (2, 11)] [100, 14] _)
  refine sd_putF hC (ci := 4) (j := 14) (C := RX4) (T := TX4) (N := 15) tyX4 tyX4_ok nmX4 rfl rfl (by decide) in_X4 rfl rfl rfl hN wl_1_167 dX4_init_34 (?_ : Sd X 37 [(0, 14), (1, 100), (2, 11)] [] _)
  exact sd_return hC hT dX4_init_37
theorem wl_1_78 : Cond.fieldLink RX4 60 "NarrowRings$City" "rings" "I" ∈ WALL := tb1 (List.mem_of_getElem? (i := 78) rfl) rfl
theorem wl_1_156 : Cond.fieldLink RX4 63 "NarrowRings$Reader" "at" "I" ∈ WALL := tb1 (List.mem_of_getElem? (i := 156) rfl) rfl
theorem wl_3_17 : Cond.methodLink RX4 66 yX4_flaw ∈ WALL := tb3 (List.mem_of_getElem? (i := 17) rfl) rfl
theorem wl_3_19 : Cond.instanceMethod yX4_flaw ∈ WALL := tb3 (List.mem_of_getElem? (i := 19) rfl) rfl
theorem wp_6 : Cond.selects RX4 yX4_flaw yX4_flaw ∈ WALL := tbS (List.mem_of_getElem? (i := 6) rfl)
theorem wl_1_4 : Cond.initialized RX4 ∈ WALL := tb1 (List.mem_of_getElem? (i := 4) rfl) rfl
theorem wl_3_20 : Cond.code yX4_flaw cX4_flaw 3 (some .boolean) ∈ WALL := tb3 (List.mem_of_getElem? (i := 20) rfl) rfl
theorem hd_X4_mayTellRings : yX4_mayTellRings.cls ≠ "java/lang/invoke/MethodHandle" ∧ yX4_mayTellRings.cls ≠ "java/lang/invoke/VarHandle" ∧ (parseMethodDescriptor yX4_mayTellRings.desc).map (fun d => d.parameters.length) = some 2 := by decide +kernel
set_option maxRecDepth 100000 in
set_option maxHeartbeats 4000000 in
theorem M_X4_mayTellRings (l : Launch) : Mt l yX4_mayTellRings (Cond.code yX4_mayTellRings cX4_mayTellRings 3 (some .boolean) :: WALL) { frames := 1, cells := 0, slots := 0, locals := 22 } [14, 0, 0] (some 0) T_X4_mayTellRings := by
  refine Mt.mk (B := E_X4_mayTellRings) (by decide +kernel) (by decide) (fun _ _ _ hh => hh) ?_
  intro X Q e1 e2 e3 hC hN hT
  subst e1
  have hC : CF X cX4_mayTellRings RX4 WALL := hC
  have S_43 : Sd X 43 [(0, 14), (1, 0), (2, 0)] [0] (B_X4_mayTellRings_43 Q) := by
    unfold B_X4_mayTellRings_43
    exact sd_zreturn hC hT dX4_mayTellRings_43
  have S_38 : Sd X 38 [(0, 14), (1, 0), (2, 0)] [] (B_X4_mayTellRings_38 Q) := by
    unfold B_X4_mayTellRings_38
    refine sd_iconst hC dX4_mayTellRings_38 ⟨by decide, by decide⟩ (?_ : Sd X 39 [(0, 14), (1, 0), (2, 0)] [0] _)
    refine sd_goto (tgt := 43) hC dX4_mayTellRings_39 rfl (?_ : Sd X 43 [(0, 14), (1, 0), (2, 0)] [0] _)
    exact Sd.weak (by decide) (S_43)
  refine (?_ : Sd X 0 [(0, 14), (1, 0), (2, 0)] [] (E_X4_mayTellRings Q))
  unfold E_X4_mayTellRings
  refine sd_iload_n hC dX4_mayTellRings_0 rfl (by decide) (?_ : Sd X 1 [(0, 14), (1, 0), (2, 0)] [0] _)
  refine sd_iload_n hC dX4_mayTellRings_1 rfl (by decide) (?_ : Sd X 2 [(0, 14), (1, 0), (2, 0)] [0, 0] _)
  refine sd_icmp_lt (tgt := 15) hC dX4_mayTellRings_2 rfl (?_ : Sd X 15 [(0, 14), (1, 0), (2, 0)] [] _) (?_ : Sd X 5 [(0, 14), (1, 0), (2, 0)] [] _)
  · refine sd_aload_n hC 14 dX4_mayTellRings_15 rfl (by decide) (by decide) (?_ : Sd X 16 [(0, 14), (1, 0), (2, 0)] [14] _)
    refine sd_get hC (ci := 4) (j := 10) (C := RX4) (T := TX4) (N := 15) rfl rfl (by decide) in_X4 wl_1_163 dX4_mayTellRings_16 (?_ : Sd X 19 [(0, 14), (1, 0), (2, 0)] [11] _)
    refine sd_get hC (ci := 1) (j := 0) (C := RX1) (T := TX1) (N := 12) rfl rfl (by decide) in_X1 wl_1_78 dX4_mayTellRings_19 (?_ : Sd X 22 [(0, 14), (1, 0), (2, 0)] [0] _)
    refine sd_if_gt (tgt := 38) hC dX4_mayTellRings_22 rfl (?_ : Sd X 38 [(0, 14), (1, 0), (2, 0)] [] _) (?_ : Sd X 25 [(0, 14), (1, 0), (2, 0)] [] _)
    · exact Sd.weak (by decide) (S_38)
    · refine sd_aload_n hC 14 dX4_mayTellRings_25 rfl (by decide) (by decide) (?_ : Sd X 26 [(0, 14), (1, 0), (2, 0)] [14] _)
      refine sd_bipush hC dX4_mayTellRings_26 (by decide) (?_ : Sd X 28 [(0, 14), (1, 0), (2, 0)] [0, 14] _)
      refine sd_aload_n hC 14 dX4_mayTellRings_28 rfl (by decide) (by decide) (?_ : Sd X 29 [(0, 14), (1, 0), (2, 0)] [14, 0, 14] _)
      refine sd_get hC (ci := 4) (j := 3) (C := RX4) (T := TX4) (N := 15) rfl rfl (by decide) in_X4 wl_1_156 dX4_mayTellRings_29 (?_ : Sd X 32 [(0, 14), (1, 0), (2, 0)] [0, 0, 14] _)
      refine sd_inv0 (τ := []) (τr := [0, 0]) (ci := 4) (q := (RX4, TX4, 15)) hC WG (M_X4_flaw _) rfl rfl rfl rfl  rfl rfl wl_3_17 wl_3_19 wp_6 wl_1_4 wl_3_20 hd_X4_flaw (by rw [e3]; decide) (by decide) dX4_mayTellRings_32 (?_ : Sd X 35 [(0, 14), (1, 0), (2, 0)] [0] _)
      refine sd_if_eq (tgt := 42) hC dX4_mayTellRings_35 rfl (?_ : Sd X 42 [(0, 14), (1, 0), (2, 0)] [] _) (?_ : Sd X 38 [(0, 14), (1, 0), (2, 0)] [] _)
      · refine sd_iconst hC dX4_mayTellRings_42 ⟨by decide, by decide⟩ (?_ : Sd X 43 [(0, 14), (1, 0), (2, 0)] [0] _)
        exact Sd.weak (by decide) (S_43)
      · exact Sd.weak (by decide) (S_38)
  · refine sd_aload_n hC 14 dX4_mayTellRings_5 rfl (by decide) (by decide) (?_ : Sd X 6 [(0, 14), (1, 0), (2, 0)] [14] _)
    refine sd_iconst hC dX4_mayTellRings_6 ⟨by decide, by decide⟩ (?_ : Sd X 7 [(0, 14), (1, 0), (2, 0)] [0, 14] _)
    refine sd_aload_n hC 14 dX4_mayTellRings_7 rfl (by decide) (by decide) (?_ : Sd X 8 [(0, 14), (1, 0), (2, 0)] [14, 0, 14] _)
    refine sd_get hC (ci := 4) (j := 3) (C := RX4) (T := TX4) (N := 15) rfl rfl (by decide) in_X4 wl_1_156 dX4_mayTellRings_8 (?_ : Sd X 11 [(0, 14), (1, 0), (2, 0)] [0, 0, 14] _)
    refine sd_inv0 (τ := []) (τr := [0, 0]) (ci := 4) (q := (RX4, TX4, 15)) hC WG (M_X4_flaw _) rfl rfl rfl rfl  rfl rfl wl_3_17 wl_3_19 wp_6 wl_1_4 wl_3_20 hd_X4_flaw (by rw [e3]; decide) (by decide) dX4_mayTellRings_11 (?_ : Sd X 14 [(0, 14), (1, 0), (2, 0)] [0] _)
    exact sd_zreturn hC hT dX4_mayTellRings_14
theorem wl_1_166 : Cond.fieldLink RX4 41 "NarrowRings$Reader" "names" "I" ∈ WALL := tb1 (List.mem_of_getElem? (i := 166) rfl) rfl
theorem wl_1_160 : Cond.fieldLink RX4 70 "NarrowRings$Reader" "code" "J" ∈ WALL := tb1 (List.mem_of_getElem? (i := 160) rfl) rfl
theorem hd_X4_nameNumber : yX4_nameNumber.cls ≠ "java/lang/invoke/MethodHandle" ∧ yX4_nameNumber.cls ≠ "java/lang/invoke/VarHandle" ∧ (parseMethodDescriptor yX4_nameNumber.desc).map (fun d => d.parameters.length) = some 0 := by decide +kernel
set_option maxRecDepth 100000 in
set_option maxHeartbeats 4000000 in
theorem M_X4_nameNumber (l : Launch) : Mt l yX4_nameNumber (Cond.code yX4_nameNumber cX4_nameNumber 2 (some .int) :: WALL) { frames := 0, cells := 0, slots := 0, locals := 0 } [14] (some 0) T_X4_nameNumber := by
  refine Mt.mk (B := E_X4_nameNumber) (by decide +kernel) (by decide) (fun _ _ _ hh => hh) ?_
  intro X Q e1 e2 e3 hC hN hT
  subst e1
  have hC : CF X cX4_nameNumber RX4 WALL := hC
  have S_38 : Sd X 38 [(0, 14), (1, 0)] [] (B_X4_nameNumber_38 Q) := by
    unfold B_X4_nameNumber_38
    refine sd_iconst hC dX4_nameNumber_38 ⟨by decide, by decide⟩ (?_ : Sd X 39 [(0, 14), (1, 0)] [0] _)
    exact sd_ireturn hC hT dX4_nameNumber_39
  have S_2 : Sd X 2 [(0, 14), (1, 0)] [] (L_X4_nameNumber_2 Q) := by
    unfold L_X4_nameNumber_2
    refine Sd.loop (fun k2 h2 => ?_)
    refine sd_iload_n hC dX4_nameNumber_2 rfl (by decide) (?_ : Sd X 3 [(0, 14), (1, 0)] [0] _)
    refine sd_aload_n hC 14 dX4_nameNumber_3 rfl (by decide) (by decide) (?_ : Sd X 4 [(0, 14), (1, 0)] [14, 0] _)
    refine sd_get hC (ci := 4) (j := 13) (C := RX4) (T := TX4) (N := 15) rfl rfl (by decide) in_X4 wl_1_166 dX4_nameNumber_4 (?_ : Sd X 7 [(0, 14), (1, 0)] [0, 0] _)
    refine sd_icmp_ge (tgt := 38) hC dX4_nameNumber_7 rfl (?_ : Sd X 38 [(0, 14), (1, 0)] [] _) (?_ : Sd X 10 [(0, 14), (1, 0)] [] _)
    · exact Sd.weak (by decide) (S_38)
    · refine sd_iload_n hC dX4_nameNumber_10 rfl (by decide) (?_ : Sd X 11 [(0, 14), (1, 0)] [0] _)
      refine sd_bipush hC dX4_nameNumber_11 (by decide) (?_ : Sd X 13 [(0, 14), (1, 0)] [0, 0] _)
      refine sd_icmp_ge (tgt := 38) hC dX4_nameNumber_13 rfl (?_ : Sd X 38 [(0, 14), (1, 0)] [] _) (?_ : Sd X 16 [(0, 14), (1, 0)] [] _)
      · exact Sd.weak (by decide) (S_38)
      · refine sd_aload_n hC 14 dX4_nameNumber_16 rfl (by decide) (by decide) (?_ : Sd X 17 [(0, 14), (1, 0)] [14] _)
        refine sd_get hC (ci := 4) (j := 11) (C := RX4) (T := TX4) (N := 15) rfl rfl (by decide) in_X4 wl_1_164 dX4_nameNumber_17 (?_ : Sd X 20 [(0, 14), (1, 0)] [101] _)
        refine sd_iload_n hC dX4_nameNumber_20 rfl (by decide) (?_ : Sd X 21 [(0, 14), (1, 0)] [0, 101] _)
        refine sd_laload hC dX4_nameNumber_21 (?_ : Sd X 22 [(0, 14), (1, 0)] [1] _)
        refine sd_aload_n hC 14 dX4_nameNumber_22 rfl (by decide) (by decide) (?_ : Sd X 23 [(0, 14), (1, 0)] [14, 1] _)
        refine sd_get hC (ci := 4) (j := 7) (C := RX4) (T := TX4) (N := 15) rfl rfl (by decide) in_X4 wl_1_160 dX4_nameNumber_23 (?_ : Sd X 26 [(0, 14), (1, 0)] [1, 1] _)
        refine sd_lcmp hC dX4_nameNumber_26 (?_ : Sd X 27 [(0, 14), (1, 0)] [0] _)
        refine sd_if_ne (tgt := 32) hC dX4_nameNumber_27 rfl (?_ : Sd X 32 [(0, 14), (1, 0)] [] _) (?_ : Sd X 30 [(0, 14), (1, 0)] [] _)
        · refine sd_iinc (Γ' := [(0, 14), (1, 0)]) hC dX4_nameNumber_32 (by decide) (by rw [e2]; decide) (by decide) (?_ : Sd X 35 [(0, 14), (1, 0)] [] _)
          refine sd_goto (tgt := 2) hC dX4_nameNumber_35 rfl (?_ : Sd X 2 [(0, 14), (1, 0)] [] _)
          exact Sd.weak (by decide) h2
        · refine sd_iload_n hC dX4_nameNumber_30 rfl (by decide) (?_ : Sd X 31 [(0, 14), (1, 0)] [0] _)
          exact sd_ireturn hC hT dX4_nameNumber_31
  refine (?_ : Sd X 0 [(0, 14)] [] (E_X4_nameNumber Q))
  unfold E_X4_nameNumber
  refine sd_iconst hC dX4_nameNumber_0 ⟨by decide, by decide⟩ (?_ : Sd X 1 [(0, 14)] [0] _)
  refine sd_istore_n (Γ' := [(0, 14), (1, 0)]) hC dX4_nameNumber_1 rfl (by rw [e2]; decide) (by decide) (?_ : Sd X 2 [(0, 14), (1, 0)] [] _)
  exact Sd.weak (by decide) (S_2)
theorem wl_1_157 : Cond.fieldLink RX4 38 "NarrowRings$Reader" "behind" "I" ∈ WALL := tb1 (List.mem_of_getElem? (i := 157) rfl) rfl
theorem wl_1_155 : Cond.fieldLink RX4 34 "NarrowRings$Reader" "length" "I" ∈ WALL := tb1 (List.mem_of_getElem? (i := 155) rfl) rfl
theorem wl_1_159 : Cond.fieldLink RX4 78 "NarrowRings$Reader" "value" "I" ∈ WALL := tb1 (List.mem_of_getElem? (i := 159) rfl) rfl
theorem wl_1_158 : Cond.fieldLink RX4 57 "NarrowRings$Reader" "kind" "I" ∈ WALL := tb1 (List.mem_of_getElem? (i := 158) rfl) rfl
theorem wl_2_194 : Cond.constantLong RX4 74 (Int64.ofInt 32) ∈ WALL := tb2 (List.mem_of_getElem? (i := 194) rfl) rfl
theorem wl_2_195 : Cond.constantLong RX4 76 (Int64.ofInt 97) ∈ WALL := tb2 (List.mem_of_getElem? (i := 195) rfl) rfl
theorem hd_X4_step : yX4_step.cls ≠ "java/lang/invoke/MethodHandle" ∧ yX4_step.cls ≠ "java/lang/invoke/VarHandle" ∧ (parseMethodDescriptor yX4_step.desc).map (fun d => d.parameters.length) = some 0 := by decide +kernel
set_option maxRecDepth 100000 in
set_option maxHeartbeats 4000000 in
theorem M_X4_step (l : Launch) : Mt l yX4_step (Cond.code yX4_step cX4_step 1 none :: WALL) { frames := 0, cells := 0, slots := 0, locals := 0 } [14] none T_X4_step := by
  refine Mt.mk (B := E_X4_step) (by decide +kernel) (by decide) (fun _ _ _ hh => hh) ?_
  intro X Q e1 e2 e3 hC hN hT
  subst e1
  have hC : CF X cX4_step RX4 WALL := hC
  have S_364 : Sd X 364 [(0, 14)] [] (B_X4_step_364 Q) := by
    unfold B_X4_step_364
    exact sd_return hC hT dX4_step_364
  have S_361 : Sd X 361 [(0, 14)] [0, 14] (B_X4_step_361 Q) := by
    unfold B_X4_step_361
    refine sd_put hC (ci := 4) (j := 5) (C := RX4) (T := TX4) (N := 15) tyX4 tyX4_ok nmX4 rfl rfl (by decide) in_X4 rfl rfl wl_1_158 dX4_step_361 (?_ : Sd X 364 [(0, 14)] [] _)
    exact Sd.weak (by decide) (S_364)
  have S_286 : Sd X 286 [(0, 14)] [0, 14] (B_X4_step_286 Q) := by
    unfold B_X4_step_286
    refine sd_put hC (ci := 4) (j := 5) (C := RX4) (T := TX4) (N := 15) tyX4 tyX4_ok nmX4 rfl rfl (by decide) in_X4 rfl rfl wl_1_158 dX4_step_286 (?_ : Sd X 289 [(0, 14)] [] _)
    exact sd_return hC hT dX4_step_289
  have S_256 : Sd X 256 [(0, 14)] [] (B_X4_step_256 Q) := by
    unfold B_X4_step_256
    refine sd_aload_n hC 14 dX4_step_256 rfl (by decide) (by decide) (?_ : Sd X 257 [(0, 14)] [14] _)
    refine sd_get hC (ci := 4) (j := 4) (C := RX4) (T := TX4) (N := 15) rfl rfl (by decide) in_X4 wl_1_157 dX4_step_257 (?_ : Sd X 260 [(0, 14)] [0] _)
    refine sd_aload_n hC 14 dX4_step_260 rfl (by decide) (by decide) (?_ : Sd X 261 [(0, 14)] [14, 0] _)
    refine sd_get hC (ci := 4) (j := 3) (C := RX4) (T := TX4) (N := 15) rfl rfl (by decide) in_X4 wl_1_156 dX4_step_261 (?_ : Sd X 264 [(0, 14)] [0, 0] _)
    refine sd_icmp_le (tgt := 290) hC dX4_step_264 rfl (?_ : Sd X 290 [(0, 14)] [] _) (?_ : Sd X 267 [(0, 14)] [] _)
    · refine sd_aload_n hC 14 dX4_step_290 rfl (by decide) (by decide) (?_ : Sd X 291 [(0, 14)] [14] _)
      refine sd_aload_n hC 14 dX4_step_291 rfl (by decide) (by decide) (?_ : Sd X 292 [(0, 14)] [14, 14] _)
      refine sd_get hC (ci := 4) (j := 3) (C := RX4) (T := TX4) (N := 15) rfl rfl (by decide) in_X4 wl_1_156 dX4_step_292 (?_ : Sd X 295 [(0, 14)] [0, 14] _)
      refine sd_iconst hC dX4_step_295 ⟨by decide, by decide⟩ (?_ : Sd X 296 [(0, 14)] [0, 0, 14] _)
      refine sd_iadd hC dX4_step_296 (?_ : Sd X 297 [(0, 14)] [0, 14] _)
      refine sd_put hC (ci := 4) (j := 4) (C := RX4) (T := TX4) (N := 15) tyX4 tyX4_ok nmX4 rfl rfl (by decide) in_X4 rfl rfl wl_1_157 dX4_step_297 (?_ : Sd X 300 [(0, 14)] [] _)
      refine sd_aload_n hC 14 dX4_step_300 rfl (by decide) (by decide) (?_ : Sd X 301 [(0, 14)] [14] _)
      refine sd_get hC (ci := 4) (j := 3) (C := RX4) (T := TX4) (N := 15) rfl rfl (by decide) in_X4 wl_1_156 dX4_step_301 (?_ : Sd X 304 [(0, 14)] [0] _)
      refine sd_aload_n hC 14 dX4_step_304 rfl (by decide) (by decide) (?_ : Sd X 305 [(0, 14)] [14, 0] _)
      refine sd_get hC (ci := 4) (j := 2) (C := RX4) (T := TX4) (N := 15) rfl rfl (by decide) in_X4 wl_1_155 dX4_step_305 (?_ : Sd X 308 [(0, 14)] [0, 0] _)
      refine sd_icmp_lt (tgt := 319) hC dX4_step_308 rfl (?_ : Sd X 319 [(0, 14)] [] _) (?_ : Sd X 311 [(0, 14)] [] _)
      · refine sd_aload_n hC 14 dX4_step_319 rfl (by decide) (by decide) (?_ : Sd X 320 [(0, 14)] [14] _)
        refine sd_get hC (ci := 4) (j := 1) (C := RX4) (T := TX4) (N := 15) rfl rfl (by decide) in_X4 wl_1_154 dX4_step_320 (?_ : Sd X 323 [(0, 14)] [100] _)
        refine sd_aload_n hC 14 dX4_step_323 rfl (by decide) (by decide) (?_ : Sd X 324 [(0, 14)] [14, 100] _)
        refine sd_get hC (ci := 4) (j := 3) (C := RX4) (T := TX4) (N := 15) rfl rfl (by decide) in_X4 wl_1_156 dX4_step_324 (?_ : Sd X 327 [(0, 14)] [0, 100] _)
        refine sd_iaload hC dX4_step_327 (?_ : Sd X 328 [(0, 14)] [0] _)
        refine sd_bipush hC dX4_step_328 (by decide) (?_ : Sd X 330 [(0, 14)] [0, 0] _)
        refine sd_icmp_ne (tgt := 341) hC dX4_step_330 rfl (?_ : Sd X 341 [(0, 14)] [] _) (?_ : Sd X 333 [(0, 14)] [] _)
        · refine sd_aload_n hC 14 dX4_step_341 rfl (by decide) (by decide) (?_ : Sd X 342 [(0, 14)] [14] _)
          refine sd_aload_n hC 14 dX4_step_342 rfl (by decide) (by decide) (?_ : Sd X 343 [(0, 14)] [14, 14] _)
          refine sd_get hC (ci := 4) (j := 1) (C := RX4) (T := TX4) (N := 15) rfl rfl (by decide) in_X4 wl_1_154 dX4_step_343 (?_ : Sd X 346 [(0, 14)] [100, 14] _)
          refine sd_aload_n hC 14 dX4_step_346 rfl (by decide) (by decide) (?_ : Sd X 347 [(0, 14)] [14, 100, 14] _)
          refine sd_get hC (ci := 4) (j := 3) (C := RX4) (T := TX4) (N := 15) rfl rfl (by decide) in_X4 wl_1_156 dX4_step_347 (?_ : Sd X 350 [(0, 14)] [0, 100, 14] _)
          refine sd_iaload hC dX4_step_350 (?_ : Sd X 351 [(0, 14)] [0, 14] _)
          refine sd_bipush hC dX4_step_351 (by decide) (?_ : Sd X 353 [(0, 14)] [0, 0, 14] _)
          refine sd_icmp_ne (tgt := 360) hC dX4_step_353 rfl (?_ : Sd X 360 [(0, 14)] [14] _) (?_ : Sd X 356 [(0, 14)] [14] _)
          · refine sd_iconst hC dX4_step_360 ⟨by decide, by decide⟩ (?_ : Sd X 361 [(0, 14)] [0, 14] _)
            exact Sd.weak (by decide) (S_361)
          · refine sd_iconst hC dX4_step_356 ⟨by decide, by decide⟩ (?_ : Sd X 357 [(0, 14)] [0, 14] _)
            refine sd_goto (tgt := 361) hC dX4_step_357 rfl (?_ : Sd X 361 [(0, 14)] [0, 14] _)
            exact Sd.weak (by decide) (S_361)
        · refine sd_aload_n hC 14 dX4_step_333 rfl (by decide) (by decide) (?_ : Sd X 334 [(0, 14)] [14] _)
          refine sd_iconst hC dX4_step_334 ⟨by decide, by decide⟩ (?_ : Sd X 335 [(0, 14)] [0, 14] _)
          refine sd_put hC (ci := 4) (j := 5) (C := RX4) (T := TX4) (N := 15) tyX4 tyX4_ok nmX4 rfl rfl (by decide) in_X4 rfl rfl wl_1_158 dX4_step_335 (?_ : Sd X 338 [(0, 14)] [] _)
          refine sd_goto (tgt := 364) hC dX4_step_338 rfl (?_ : Sd X 364 [(0, 14)] [] _)
          exact Sd.weak (by decide) (S_364)
      · refine sd_aload_n hC 14 dX4_step_311 rfl (by decide) (by decide) (?_ : Sd X 312 [(0, 14)] [14] _)
        refine sd_iconst hC dX4_step_312 ⟨by decide, by decide⟩ (?_ : Sd X 313 [(0, 14)] [0, 14] _)
        refine sd_put hC (ci := 4) (j := 5) (C := RX4) (T := TX4) (N := 15) tyX4 tyX4_ok nmX4 rfl rfl (by decide) in_X4 rfl rfl wl_1_158 dX4_step_313 (?_ : Sd X 316 [(0, 14)] [] _)
        refine sd_goto (tgt := 364) hC dX4_step_316 rfl (?_ : Sd X 364 [(0, 14)] [] _)
        exact Sd.weak (by decide) (S_364)
    · refine sd_aload_n hC 14 dX4_step_267 rfl (by decide) (by decide) (?_ : Sd X 268 [(0, 14)] [14] _)
      refine sd_aload_n hC 14 dX4_step_268 rfl (by decide) (by decide) (?_ : Sd X 269 [(0, 14)] [14, 14] _)
      refine sd_get hC (ci := 4) (j := 4) (C := RX4) (T := TX4) (N := 15) rfl rfl (by decide) in_X4 wl_1_157 dX4_step_269 (?_ : Sd X 272 [(0, 14)] [0, 14] _)
      refine sd_aload_n hC 14 dX4_step_272 rfl (by decide) (by decide) (?_ : Sd X 273 [(0, 14)] [14, 0, 14] _)
      refine sd_get hC (ci := 4) (j := 3) (C := RX4) (T := TX4) (N := 15) rfl rfl (by decide) in_X4 wl_1_156 dX4_step_273 (?_ : Sd X 276 [(0, 14)] [0, 0, 14] _)
      refine sd_isub hC dX4_step_276 (?_ : Sd X 277 [(0, 14)] [0, 14] _)
      refine sd_iconst hC dX4_step_277 ⟨by decide, by decide⟩ (?_ : Sd X 278 [(0, 14)] [0, 0, 14] _)
      refine sd_icmp_gt (tgt := 285) hC dX4_step_278 rfl (?_ : Sd X 285 [(0, 14)] [14] _) (?_ : Sd X 281 [(0, 14)] [14] _)
      · refine sd_iconst hC dX4_step_285 ⟨by decide, by decide⟩ (?_ : Sd X 286 [(0, 14)] [0, 14] _)
        exact Sd.weak (by decide) (S_286)
      · refine sd_iconst hC dX4_step_281 ⟨by decide, by decide⟩ (?_ : Sd X 282 [(0, 14)] [0, 14] _)
        refine sd_goto (tgt := 286) hC dX4_step_282 rfl (?_ : Sd X 286 [(0, 14)] [0, 14] _)
        exact Sd.weak (by decide) (S_286)
  have S_180 : Sd X 180 [(0, 14)] [] (L_X4_step_180 Q) := by
    unfold L_X4_step_180
    refine Sd.loop (fun k180 h180 => ?_)
    refine sd_aload_n hC 14 dX4_step_180 rfl (by decide) (by decide) (?_ : Sd X 181 [(0, 14)] [14] _)
    refine sd_get hC (ci := 4) (j := 4) (C := RX4) (T := TX4) (N := 15) rfl rfl (by decide) in_X4 wl_1_157 dX4_step_181 (?_ : Sd X 184 [(0, 14)] [0] _)
    refine sd_aload_n hC 14 dX4_step_184 rfl (by decide) (by decide) (?_ : Sd X 185 [(0, 14)] [14, 0] _)
    refine sd_get hC (ci := 4) (j := 2) (C := RX4) (T := TX4) (N := 15) rfl rfl (by decide) in_X4 wl_1_155 dX4_step_185 (?_ : Sd X 188 [(0, 14)] [0, 0] _)
    refine sd_icmp_ge (tgt := 256) hC dX4_step_188 rfl (?_ : Sd X 256 [(0, 14)] [] _) (?_ : Sd X 191 [(0, 14)] [] _)
    · exact Sd.weak (by decide) (S_256)
    · refine sd_aload_n hC 14 dX4_step_191 rfl (by decide) (by decide) (?_ : Sd X 192 [(0, 14)] [14] _)
      refine sd_get hC (ci := 4) (j := 1) (C := RX4) (T := TX4) (N := 15) rfl rfl (by decide) in_X4 wl_1_154 dX4_step_192 (?_ : Sd X 195 [(0, 14)] [100] _)
      refine sd_aload_n hC 14 dX4_step_195 rfl (by decide) (by decide) (?_ : Sd X 196 [(0, 14)] [14, 100] _)
      refine sd_get hC (ci := 4) (j := 4) (C := RX4) (T := TX4) (N := 15) rfl rfl (by decide) in_X4 wl_1_157 dX4_step_196 (?_ : Sd X 199 [(0, 14)] [0, 100] _)
      refine sd_iaload hC dX4_step_199 (?_ : Sd X 200 [(0, 14)] [0] _)
      refine sd_bipush hC dX4_step_200 (by decide) (?_ : Sd X 202 [(0, 14)] [0, 0] _)
      refine sd_icmp_lt (tgt := 256) hC dX4_step_202 rfl (?_ : Sd X 256 [(0, 14)] [] _) (?_ : Sd X 205 [(0, 14)] [] _)
      · exact Sd.weak (by decide) (S_256)
      · refine sd_aload_n hC 14 dX4_step_205 rfl (by decide) (by decide) (?_ : Sd X 206 [(0, 14)] [14] _)
        refine sd_get hC (ci := 4) (j := 1) (C := RX4) (T := TX4) (N := 15) rfl rfl (by decide) in_X4 wl_1_154 dX4_step_206 (?_ : Sd X 209 [(0, 14)] [100] _)
        refine sd_aload_n hC 14 dX4_step_209 rfl (by decide) (by decide) (?_ : Sd X 210 [(0, 14)] [14, 100] _)
        refine sd_get hC (ci := 4) (j := 4) (C := RX4) (T := TX4) (N := 15) rfl rfl (by decide) in_X4 wl_1_157 dX4_step_210 (?_ : Sd X 213 [(0, 14)] [0, 100] _)
        refine sd_iaload hC dX4_step_213 (?_ : Sd X 214 [(0, 14)] [0] _)
        refine sd_bipush hC dX4_step_214 (by decide) (?_ : Sd X 216 [(0, 14)] [0, 0] _)
        refine sd_icmp_gt (tgt := 256) hC dX4_step_216 rfl (?_ : Sd X 256 [(0, 14)] [] _) (?_ : Sd X 219 [(0, 14)] [] _)
        · exact Sd.weak (by decide) (S_256)
        · refine sd_aload_n hC 14 dX4_step_219 rfl (by decide) (by decide) (?_ : Sd X 220 [(0, 14)] [14] _)
          refine sd_aload_n hC 14 dX4_step_220 rfl (by decide) (by decide) (?_ : Sd X 221 [(0, 14)] [14, 14] _)
          refine sd_get hC (ci := 4) (j := 6) (C := RX4) (T := TX4) (N := 15) rfl rfl (by decide) in_X4 wl_1_159 dX4_step_221 (?_ : Sd X 224 [(0, 14)] [0, 14] _)
          refine sd_bipush hC dX4_step_224 (by decide) (?_ : Sd X 226 [(0, 14)] [0, 0, 14] _)
          refine sd_imul hC dX4_step_226 (?_ : Sd X 227 [(0, 14)] [0, 14] _)
          refine sd_aload_n hC 14 dX4_step_227 rfl (by decide) (by decide) (?_ : Sd X 228 [(0, 14)] [14, 0, 14] _)
          refine sd_get hC (ci := 4) (j := 1) (C := RX4) (T := TX4) (N := 15) rfl rfl (by decide) in_X4 wl_1_154 dX4_step_228 (?_ : Sd X 231 [(0, 14)] [100, 0, 14] _)
          refine sd_aload_n hC 14 dX4_step_231 rfl (by decide) (by decide) (?_ : Sd X 232 [(0, 14)] [14, 100, 0, 14] _)
          refine sd_get hC (ci := 4) (j := 4) (C := RX4) (T := TX4) (N := 15) rfl rfl (by decide) in_X4 wl_1_157 dX4_step_232 (?_ : Sd X 235 [(0, 14)] [0, 100, 0, 14] _)
          refine sd_iaload hC dX4_step_235 (?_ : Sd X 236 [(0, 14)] [0, 0, 14] _)
          refine sd_iadd hC dX4_step_236 (?_ : Sd X 237 [(0, 14)] [0, 14] _)
          refine sd_bipush hC dX4_step_237 (by decide) (?_ : Sd X 239 [(0, 14)] [0, 0, 14] _)
          refine sd_isub hC dX4_step_239 (?_ : Sd X 240 [(0, 14)] [0, 14] _)
          refine sd_put hC (ci := 4) (j := 6) (C := RX4) (T := TX4) (N := 15) tyX4 tyX4_ok nmX4 rfl rfl (by decide) in_X4 rfl rfl wl_1_159 dX4_step_240 (?_ : Sd X 243 [(0, 14)] [] _)
          refine sd_aload_n hC 14 dX4_step_243 rfl (by decide) (by decide) (?_ : Sd X 244 [(0, 14)] [14] _)
          refine sd_dup hC (by decide) dX4_step_244 (?_ : Sd X 245 [(0, 14)] [14, 14] _)
          refine sd_get hC (ci := 4) (j := 4) (C := RX4) (T := TX4) (N := 15) rfl rfl (by decide) in_X4 wl_1_157 dX4_step_245 (?_ : Sd X 248 [(0, 14)] [0, 14] _)
          refine sd_iconst hC dX4_step_248 ⟨by decide, by decide⟩ (?_ : Sd X 249 [(0, 14)] [0, 0, 14] _)
          refine sd_iadd hC dX4_step_249 (?_ : Sd X 250 [(0, 14)] [0, 14] _)
          refine sd_put hC (ci := 4) (j := 4) (C := RX4) (T := TX4) (N := 15) tyX4 tyX4_ok nmX4 rfl rfl (by decide) in_X4 rfl rfl wl_1_157 dX4_step_250 (?_ : Sd X 253 [(0, 14)] [] _)
          refine sd_goto (tgt := 180) hC dX4_step_253 rfl (?_ : Sd X 180 [(0, 14)] [] _)
          exact Sd.weak (by decide) h180
  have S_171 : Sd X 171 [(0, 14)] [0, 14] (B_X4_step_171 Q) := by
    unfold B_X4_step_171
    refine sd_put hC (ci := 4) (j := 5) (C := RX4) (T := TX4) (N := 15) tyX4 tyX4_ok nmX4 rfl rfl (by decide) in_X4 rfl rfl wl_1_158 dX4_step_171 (?_ : Sd X 174 [(0, 14)] [] _)
    exact sd_return hC hT dX4_step_174
  have S_140 : Sd X 140 [(0, 14)] [] (B_X4_step_140 Q) := by
    unfold B_X4_step_140
    refine sd_aload_n hC 14 dX4_step_140 rfl (by decide) (by decide) (?_ : Sd X 141 [(0, 14)] [14] _)
    refine sd_get hC (ci := 4) (j := 4) (C := RX4) (T := TX4) (N := 15) rfl rfl (by decide) in_X4 wl_1_157 dX4_step_141 (?_ : Sd X 144 [(0, 14)] [0] _)
    refine sd_aload_n hC 14 dX4_step_144 rfl (by decide) (by decide) (?_ : Sd X 145 [(0, 14)] [14, 0] _)
    refine sd_get hC (ci := 4) (j := 3) (C := RX4) (T := TX4) (N := 15) rfl rfl (by decide) in_X4 wl_1_156 dX4_step_145 (?_ : Sd X 148 [(0, 14)] [0, 0] _)
    refine sd_icmp_le (tgt := 175) hC dX4_step_148 rfl (?_ : Sd X 175 [(0, 14)] [] _) (?_ : Sd X 151 [(0, 14)] [] _)
    · refine sd_aload_n hC 14 dX4_step_175 rfl (by decide) (by decide) (?_ : Sd X 176 [(0, 14)] [14] _)
      refine sd_iconst hC dX4_step_176 ⟨by decide, by decide⟩ (?_ : Sd X 177 [(0, 14)] [0, 14] _)
      refine sd_put hC (ci := 4) (j := 6) (C := RX4) (T := TX4) (N := 15) tyX4 tyX4_ok nmX4 rfl rfl (by decide) in_X4 rfl rfl wl_1_159 dX4_step_177 (?_ : Sd X 180 [(0, 14)] [] _)
      exact Sd.weak (by decide) (S_180)
    · refine sd_aload_n hC 14 dX4_step_151 rfl (by decide) (by decide) (?_ : Sd X 152 [(0, 14)] [14] _)
      refine sd_aload_n hC 14 dX4_step_152 rfl (by decide) (by decide) (?_ : Sd X 153 [(0, 14)] [14, 14] _)
      refine sd_get hC (ci := 4) (j := 4) (C := RX4) (T := TX4) (N := 15) rfl rfl (by decide) in_X4 wl_1_157 dX4_step_153 (?_ : Sd X 156 [(0, 14)] [0, 14] _)
      refine sd_aload_n hC 14 dX4_step_156 rfl (by decide) (by decide) (?_ : Sd X 157 [(0, 14)] [14, 0, 14] _)
      refine sd_get hC (ci := 4) (j := 3) (C := RX4) (T := TX4) (N := 15) rfl rfl (by decide) in_X4 wl_1_156 dX4_step_157 (?_ : Sd X 160 [(0, 14)] [0, 0, 14] _)
      refine sd_isub hC dX4_step_160 (?_ : Sd X 161 [(0, 14)] [0, 14] _)
      refine sd_bipush hC dX4_step_161 (by decide) (?_ : Sd X 163 [(0, 14)] [0, 0, 14] _)
      refine sd_icmp_gt (tgt := 170) hC dX4_step_163 rfl (?_ : Sd X 170 [(0, 14)] [14] _) (?_ : Sd X 166 [(0, 14)] [14] _)
      · refine sd_iconst hC dX4_step_170 ⟨by decide, by decide⟩ (?_ : Sd X 171 [(0, 14)] [0, 14] _)
        exact Sd.weak (by decide) (S_171)
      · refine sd_iconst hC dX4_step_166 ⟨by decide, by decide⟩ (?_ : Sd X 167 [(0, 14)] [0, 14] _)
        refine sd_goto (tgt := 171) hC dX4_step_167 rfl (?_ : Sd X 171 [(0, 14)] [0, 14] _)
        exact Sd.weak (by decide) (S_171)
  have S_59 : Sd X 59 [(0, 14)] [] (L_X4_step_59 Q) := by
    unfold L_X4_step_59
    refine Sd.loop (fun k59 h59 => ?_)
    refine sd_aload_n hC 14 dX4_step_59 rfl (by decide) (by decide) (?_ : Sd X 60 [(0, 14)] [14] _)
    refine sd_get hC (ci := 4) (j := 4) (C := RX4) (T := TX4) (N := 15) rfl rfl (by decide) in_X4 wl_1_157 dX4_step_60 (?_ : Sd X 63 [(0, 14)] [0] _)
    refine sd_aload_n hC 14 dX4_step_63 rfl (by decide) (by decide) (?_ : Sd X 64 [(0, 14)] [14, 0] _)
    refine sd_get hC (ci := 4) (j := 2) (C := RX4) (T := TX4) (N := 15) rfl rfl (by decide) in_X4 wl_1_155 dX4_step_64 (?_ : Sd X 67 [(0, 14)] [0, 0] _)
    refine sd_icmp_ge (tgt := 140) hC dX4_step_67 rfl (?_ : Sd X 140 [(0, 14)] [] _) (?_ : Sd X 70 [(0, 14)] [] _)
    · exact Sd.weak (by decide) (S_140)
    · refine sd_aload_n hC 14 dX4_step_70 rfl (by decide) (by decide) (?_ : Sd X 71 [(0, 14)] [14] _)
      refine sd_get hC (ci := 4) (j := 1) (C := RX4) (T := TX4) (N := 15) rfl rfl (by decide) in_X4 wl_1_154 dX4_step_71 (?_ : Sd X 74 [(0, 14)] [100] _)
      refine sd_aload_n hC 14 dX4_step_74 rfl (by decide) (by decide) (?_ : Sd X 75 [(0, 14)] [14, 100] _)
      refine sd_get hC (ci := 4) (j := 4) (C := RX4) (T := TX4) (N := 15) rfl rfl (by decide) in_X4 wl_1_157 dX4_step_75 (?_ : Sd X 78 [(0, 14)] [0, 100] _)
      refine sd_iaload hC dX4_step_78 (?_ : Sd X 79 [(0, 14)] [0] _)
      refine sd_bipush hC dX4_step_79 (by decide) (?_ : Sd X 81 [(0, 14)] [0, 0] _)
      refine sd_icmp_lt (tgt := 140) hC dX4_step_81 rfl (?_ : Sd X 140 [(0, 14)] [] _) (?_ : Sd X 84 [(0, 14)] [] _)
      · exact Sd.weak (by decide) (S_140)
      · refine sd_aload_n hC 14 dX4_step_84 rfl (by decide) (by decide) (?_ : Sd X 85 [(0, 14)] [14] _)
        refine sd_get hC (ci := 4) (j := 1) (C := RX4) (T := TX4) (N := 15) rfl rfl (by decide) in_X4 wl_1_154 dX4_step_85 (?_ : Sd X 88 [(0, 14)] [100] _)
        refine sd_aload_n hC 14 dX4_step_88 rfl (by decide) (by decide) (?_ : Sd X 89 [(0, 14)] [14, 100] _)
        refine sd_get hC (ci := 4) (j := 4) (C := RX4) (T := TX4) (N := 15) rfl rfl (by decide) in_X4 wl_1_157 dX4_step_89 (?_ : Sd X 92 [(0, 14)] [0, 100] _)
        refine sd_iaload hC dX4_step_92 (?_ : Sd X 93 [(0, 14)] [0] _)
        refine sd_bipush hC dX4_step_93 (by decide) (?_ : Sd X 95 [(0, 14)] [0, 0] _)
        refine sd_icmp_gt (tgt := 140) hC dX4_step_95 rfl (?_ : Sd X 140 [(0, 14)] [] _) (?_ : Sd X 98 [(0, 14)] [] _)
        · exact Sd.weak (by decide) (S_140)
        · refine sd_aload_n hC 14 dX4_step_98 rfl (by decide) (by decide) (?_ : Sd X 99 [(0, 14)] [14] _)
          refine sd_aload_n hC 14 dX4_step_99 rfl (by decide) (by decide) (?_ : Sd X 100 [(0, 14)] [14, 14] _)
          refine sd_get hC (ci := 4) (j := 7) (C := RX4) (T := TX4) (N := 15) rfl rfl (by decide) in_X4 wl_1_160 dX4_step_100 (?_ : Sd X 103 [(0, 14)] [1, 14] _)
          refine sd_ldc2 hC wl_2_194 dX4_step_103 ⟨by decide, by decide⟩ (?_ : Sd X 106 [(0, 14)] [1, 1, 14] _)
          refine sd_lmul hC dX4_step_106 (?_ : Sd X 107 [(0, 14)] [1, 14] _)
          refine sd_aload_n hC 14 dX4_step_107 rfl (by decide) (by decide) (?_ : Sd X 108 [(0, 14)] [14, 1, 14] _)
          refine sd_get hC (ci := 4) (j := 1) (C := RX4) (T := TX4) (N := 15) rfl rfl (by decide) in_X4 wl_1_154 dX4_step_108 (?_ : Sd X 111 [(0, 14)] [100, 1, 14] _)
          refine sd_aload_n hC 14 dX4_step_111 rfl (by decide) (by decide) (?_ : Sd X 112 [(0, 14)] [14, 100, 1, 14] _)
          refine sd_get hC (ci := 4) (j := 4) (C := RX4) (T := TX4) (N := 15) rfl rfl (by decide) in_X4 wl_1_157 dX4_step_112 (?_ : Sd X 115 [(0, 14)] [0, 100, 1, 14] _)
          refine sd_iaload hC dX4_step_115 (?_ : Sd X 116 [(0, 14)] [0, 1, 14] _)
          refine sd_i2l hC dX4_step_116 (?_ : Sd X 117 [(0, 14)] [1, 1, 14] _)
          refine sd_ladd hC dX4_step_117 (?_ : Sd X 118 [(0, 14)] [1, 14] _)
          refine sd_ldc2 hC wl_2_195 dX4_step_118 ⟨by decide, by decide⟩ (?_ : Sd X 121 [(0, 14)] [1, 1, 14] _)
          refine sd_lsub hC dX4_step_121 (?_ : Sd X 122 [(0, 14)] [1, 14] _)
          refine sd_lconst hC rfl dX4_step_122 (?_ : Sd X 123 [(0, 14)] [1, 1, 14] _)
          refine sd_ladd hC dX4_step_123 (?_ : Sd X 124 [(0, 14)] [1, 14] _)
          refine sd_put hC (ci := 4) (j := 7) (C := RX4) (T := TX4) (N := 15) tyX4 tyX4_ok nmX4 rfl rfl (by decide) in_X4 rfl rfl wl_1_160 dX4_step_124 (?_ : Sd X 127 [(0, 14)] [] _)
          refine sd_aload_n hC 14 dX4_step_127 rfl (by decide) (by decide) (?_ : Sd X 128 [(0, 14)] [14] _)
          refine sd_dup hC (by decide) dX4_step_128 (?_ : Sd X 129 [(0, 14)] [14, 14] _)
          refine sd_get hC (ci := 4) (j := 4) (C := RX4) (T := TX4) (N := 15) rfl rfl (by decide) in_X4 wl_1_157 dX4_step_129 (?_ : Sd X 132 [(0, 14)] [0, 14] _)
          refine sd_iconst hC dX4_step_132 ⟨by decide, by decide⟩ (?_ : Sd X 133 [(0, 14)] [0, 0, 14] _)
          refine sd_iadd hC dX4_step_133 (?_ : Sd X 134 [(0, 14)] [0, 14] _)
          refine sd_put hC (ci := 4) (j := 4) (C := RX4) (T := TX4) (N := 15) tyX4 tyX4_ok nmX4 rfl rfl (by decide) in_X4 rfl rfl wl_1_157 dX4_step_134 (?_ : Sd X 137 [(0, 14)] [] _)
          refine sd_goto (tgt := 59) hC dX4_step_137 rfl (?_ : Sd X 59 [(0, 14)] [] _)
          exact Sd.weak (by decide) h59
  have S_46 : Sd X 46 [(0, 14)] [] (B_X4_step_46 Q) := by
    unfold B_X4_step_46
    refine sd_aload_n hC 14 dX4_step_46 rfl (by decide) (by decide) (?_ : Sd X 47 [(0, 14)] [14] _)
    refine sd_aload_n hC 14 dX4_step_47 rfl (by decide) (by decide) (?_ : Sd X 48 [(0, 14)] [14, 14] _)
    refine sd_get hC (ci := 4) (j := 3) (C := RX4) (T := TX4) (N := 15) rfl rfl (by decide) in_X4 wl_1_156 dX4_step_48 (?_ : Sd X 51 [(0, 14)] [0, 14] _)
    refine sd_put hC (ci := 4) (j := 4) (C := RX4) (T := TX4) (N := 15) tyX4 tyX4_ok nmX4 rfl rfl (by decide) in_X4 rfl rfl wl_1_157 dX4_step_51 (?_ : Sd X 54 [(0, 14)] [] _)
    refine sd_aload_n hC 14 dX4_step_54 rfl (by decide) (by decide) (?_ : Sd X 55 [(0, 14)] [14] _)
    refine sd_lconst hC rfl dX4_step_55 (?_ : Sd X 56 [(0, 14)] [1, 14] _)
    refine sd_put hC (ci := 4) (j := 7) (C := RX4) (T := TX4) (N := 15) tyX4 tyX4_ok nmX4 rfl rfl (by decide) in_X4 rfl rfl wl_1_160 dX4_step_56 (?_ : Sd X 59 [(0, 14)] [] _)
    exact Sd.weak (by decide) (S_59)
  have S_8 : Sd X 8 [(0, 14)] [] (L_X4_step_8 Q) := by
    unfold L_X4_step_8
    refine Sd.loop (fun k8 h8 => ?_)
    refine sd_aload_n hC 14 dX4_step_8 rfl (by decide) (by decide) (?_ : Sd X 9 [(0, 14)] [14] _)
    refine sd_get hC (ci := 4) (j := 3) (C := RX4) (T := TX4) (N := 15) rfl rfl (by decide) in_X4 wl_1_156 dX4_step_9 (?_ : Sd X 12 [(0, 14)] [0] _)
    refine sd_aload_n hC 14 dX4_step_12 rfl (by decide) (by decide) (?_ : Sd X 13 [(0, 14)] [14, 0] _)
    refine sd_get hC (ci := 4) (j := 2) (C := RX4) (T := TX4) (N := 15) rfl rfl (by decide) in_X4 wl_1_155 dX4_step_13 (?_ : Sd X 16 [(0, 14)] [0, 0] _)
    refine sd_icmp_ge (tgt := 46) hC dX4_step_16 rfl (?_ : Sd X 46 [(0, 14)] [] _) (?_ : Sd X 19 [(0, 14)] [] _)
    · exact Sd.weak (by decide) (S_46)
    · refine sd_aload_n hC 14 dX4_step_19 rfl (by decide) (by decide) (?_ : Sd X 20 [(0, 14)] [14] _)
      refine sd_get hC (ci := 4) (j := 1) (C := RX4) (T := TX4) (N := 15) rfl rfl (by decide) in_X4 wl_1_154 dX4_step_20 (?_ : Sd X 23 [(0, 14)] [100] _)
      refine sd_aload_n hC 14 dX4_step_23 rfl (by decide) (by decide) (?_ : Sd X 24 [(0, 14)] [14, 100] _)
      refine sd_get hC (ci := 4) (j := 3) (C := RX4) (T := TX4) (N := 15) rfl rfl (by decide) in_X4 wl_1_156 dX4_step_24 (?_ : Sd X 27 [(0, 14)] [0, 100] _)
      refine sd_iaload hC dX4_step_27 (?_ : Sd X 28 [(0, 14)] [0] _)
      refine sd_bipush hC dX4_step_28 (by decide) (?_ : Sd X 30 [(0, 14)] [0, 0] _)
      refine sd_icmp_ne (tgt := 46) hC dX4_step_30 rfl (?_ : Sd X 46 [(0, 14)] [] _) (?_ : Sd X 33 [(0, 14)] [] _)
      · exact Sd.weak (by decide) (S_46)
      · refine sd_aload_n hC 14 dX4_step_33 rfl (by decide) (by decide) (?_ : Sd X 34 [(0, 14)] [14] _)
        refine sd_dup hC (by decide) dX4_step_34 (?_ : Sd X 35 [(0, 14)] [14, 14] _)
        refine sd_get hC (ci := 4) (j := 3) (C := RX4) (T := TX4) (N := 15) rfl rfl (by decide) in_X4 wl_1_156 dX4_step_35 (?_ : Sd X 38 [(0, 14)] [0, 14] _)
        refine sd_iconst hC dX4_step_38 ⟨by decide, by decide⟩ (?_ : Sd X 39 [(0, 14)] [0, 0, 14] _)
        refine sd_iadd hC dX4_step_39 (?_ : Sd X 40 [(0, 14)] [0, 14] _)
        refine sd_put hC (ci := 4) (j := 3) (C := RX4) (T := TX4) (N := 15) tyX4 tyX4_ok nmX4 rfl rfl (by decide) in_X4 rfl rfl wl_1_156 dX4_step_40 (?_ : Sd X 43 [(0, 14)] [] _)
        refine sd_goto (tgt := 8) hC dX4_step_43 rfl (?_ : Sd X 8 [(0, 14)] [] _)
        exact Sd.weak (by decide) h8
  refine (?_ : Sd X 0 [(0, 14)] [] (E_X4_step Q))
  unfold E_X4_step
  refine sd_aload_n hC 14 dX4_step_0 rfl (by decide) (by decide) (?_ : Sd X 1 [(0, 14)] [14] _)
  refine sd_aload_n hC 14 dX4_step_1 rfl (by decide) (by decide) (?_ : Sd X 2 [(0, 14)] [14, 14] _)
  refine sd_get hC (ci := 4) (j := 4) (C := RX4) (T := TX4) (N := 15) rfl rfl (by decide) in_X4 wl_1_157 dX4_step_2 (?_ : Sd X 5 [(0, 14)] [0, 14] _)
  refine sd_put hC (ci := 4) (j := 3) (C := RX4) (T := TX4) (N := 15) tyX4 tyX4_ok nmX4 rfl rfl (by decide) in_X4 rfl rfl wl_1_156 dX4_step_5 (?_ : Sd X 8 [(0, 14)] [] _)
  exact Sd.weak (by decide) (S_8)
theorem wl_2_190 : Cond.methodLink RX4 50 yX4_step ∈ WALL := tb2 (List.mem_of_getElem? (i := 190) rfl) rfl
theorem wl_2_192 : Cond.instanceMethod yX4_step ∈ WALL := tb2 (List.mem_of_getElem? (i := 192) rfl) rfl
theorem wp_2 : Cond.selects RX4 yX4_step yX4_step ∈ WALL := tbS (List.mem_of_getElem? (i := 2) rfl)
theorem wl_2_193 : Cond.code yX4_step cX4_step 1 none ∈ WALL := tb2 (List.mem_of_getElem? (i := 193) rfl) rfl
theorem hd_X4_needComma : yX4_needComma.cls ≠ "java/lang/invoke/MethodHandle" ∧ yX4_needComma.cls ≠ "java/lang/invoke/VarHandle" ∧ (parseMethodDescriptor yX4_needComma.desc).map (fun d => d.parameters.length) = some 0 := by decide +kernel
set_option maxRecDepth 100000 in
set_option maxHeartbeats 4000000 in
theorem M_X4_needComma (l : Launch) : Mt l yX4_needComma (Cond.code yX4_needComma cX4_needComma 1 (some .boolean) :: WALL) { frames := 1, cells := 0, slots := 0, locals := 22 } [14] (some 0) T_X4_needComma := by
  refine Mt.mk (B := E_X4_needComma) (by decide +kernel) (by decide) (fun _ _ _ hh => hh) ?_
  intro X Q e1 e2 e3 hC hN hT
  subst e1
  have hC : CF X cX4_needComma RX4 WALL := hC
  refine (?_ : Sd X 0 [(0, 14)] [] (E_X4_needComma Q))
  unfold E_X4_needComma
  refine sd_aload_n hC 14 dX4_needComma_0 rfl (by decide) (by decide) (?_ : Sd X 1 [(0, 14)] [14] _)
  refine sd_get hC (ci := 4) (j := 5) (C := RX4) (T := TX4) (N := 15) rfl rfl (by decide) in_X4 wl_1_158 dX4_needComma_1 (?_ : Sd X 4 [(0, 14)] [0] _)
  refine sd_iconst hC dX4_needComma_4 ⟨by decide, by decide⟩ (?_ : Sd X 5 [(0, 14)] [0, 0] _)
  refine sd_icmp_eq (tgt := 18) hC dX4_needComma_5 rfl (?_ : Sd X 18 [(0, 14)] [] _) (?_ : Sd X 8 [(0, 14)] [] _)
  · refine sd_aload_n hC 14 dX4_needComma_18 rfl (by decide) (by decide) (?_ : Sd X 19 [(0, 14)] [14] _)
    refine sd_inv0v (τ := []) (τr := []) (ci := 4) (q := (RX4, TX4, 15)) hC WG (M_X4_step _) rfl rfl rfl rfl  rfl rfl wl_2_190 wl_2_192 wp_2 wl_1_4 wl_2_193 hd_X4_step (by rw [e3]; decide) (by decide) dX4_needComma_19 (?_ : Sd X 22 [(0, 14)] [] _)
    refine sd_iconst hC dX4_needComma_22 ⟨by decide, by decide⟩ (?_ : Sd X 23 [(0, 14)] [0] _)
    exact sd_zreturn hC hT dX4_needComma_23
  · refine sd_aload_n hC 14 dX4_needComma_8 rfl (by decide) (by decide) (?_ : Sd X 9 [(0, 14)] [14] _)
    refine sd_iconst hC dX4_needComma_9 ⟨by decide, by decide⟩ (?_ : Sd X 10 [(0, 14)] [0, 14] _)
    refine sd_aload_n hC 14 dX4_needComma_10 rfl (by decide) (by decide) (?_ : Sd X 11 [(0, 14)] [14, 0, 14] _)
    refine sd_get hC (ci := 4) (j := 3) (C := RX4) (T := TX4) (N := 15) rfl rfl (by decide) in_X4 wl_1_156 dX4_needComma_11 (?_ : Sd X 14 [(0, 14)] [0, 0, 14] _)
    refine sd_inv0 (τ := []) (τr := [0, 0]) (ci := 4) (q := (RX4, TX4, 15)) hC WG (M_X4_flaw _) rfl rfl rfl rfl  rfl rfl wl_3_17 wl_3_19 wp_6 wl_1_4 wl_3_20 hd_X4_flaw (by rw [e3]; decide) (by decide) dX4_needComma_14 (?_ : Sd X 17 [(0, 14)] [0] _)
    exact sd_zreturn hC hT dX4_needComma_17
theorem wl_1_161 : Cond.fieldLink RX4 111 "NarrowRings$Reader" "taken" "I" ∈ WALL := tb1 (List.mem_of_getElem? (i := 161) rfl) rfl
theorem hd_X4_needWhole : yX4_needWhole.cls ≠ "java/lang/invoke/MethodHandle" ∧ yX4_needWhole.cls ≠ "java/lang/invoke/VarHandle" ∧ (parseMethodDescriptor yX4_needWhole.desc).map (fun d => d.parameters.length) = some 2 := by decide +kernel
set_option maxRecDepth 100000 in
set_option maxHeartbeats 4000000 in
theorem M_X4_needWhole (l : Launch) : Mt l yX4_needWhole (Cond.code yX4_needWhole cX4_needWhole 3 (some .boolean) :: WALL) { frames := 1, cells := 0, slots := 0, locals := 22 } [14, 0, 0] (some 0) T_X4_needWhole := by
  refine Mt.mk (B := E_X4_needWhole) (by decide +kernel) (by decide) (fun _ _ _ hh => hh) ?_
  intro X Q e1 e2 e3 hC hN hT
  subst e1
  have hC : CF X cX4_needWhole RX4 WALL := hC
  have S_34 : Sd X 34 [(0, 14), (1, 0), (2, 0)] [] (B_X4_needWhole_34 Q) := by
    unfold B_X4_needWhole_34
    refine sd_aload_n hC 14 dX4_needWhole_34 rfl (by decide) (by decide) (?_ : Sd X 35 [(0, 14), (1, 0), (2, 0)] [14] _)
    refine sd_iconst hC dX4_needWhole_35 ⟨by decide, by decide⟩ (?_ : Sd X 36 [(0, 14), (1, 0), (2, 0)] [0, 14] _)
    refine sd_aload_n hC 14 dX4_needWhole_36 rfl (by decide) (by decide) (?_ : Sd X 37 [(0, 14), (1, 0), (2, 0)] [14, 0, 14] _)
    refine sd_get hC (ci := 4) (j := 3) (C := RX4) (T := TX4) (N := 15) rfl rfl (by decide) in_X4 wl_1_156 dX4_needWhole_37 (?_ : Sd X 40 [(0, 14), (1, 0), (2, 0)] [0, 0, 14] _)
    refine sd_inv0 (τ := []) (τr := [0, 0]) (ci := 4) (q := (RX4, TX4, 15)) hC WG (M_X4_flaw _) rfl rfl rfl rfl  rfl rfl wl_3_17 wl_3_19 wp_6 wl_1_4 wl_3_20 hd_X4_flaw (by rw [e3]; decide) (by decide) dX4_needWhole_40 (?_ : Sd X 43 [(0, 14), (1, 0), (2, 0)] [0] _)
    exact sd_zreturn hC hT dX4_needWhole_43
  refine (?_ : Sd X 0 [(0, 14), (1, 0), (2, 0)] [] (E_X4_needWhole Q))
  unfold E_X4_needWhole
  refine sd_aload_n hC 14 dX4_needWhole_0 rfl (by decide) (by decide) (?_ : Sd X 1 [(0, 14), (1, 0), (2, 0)] [14] _)
  refine sd_get hC (ci := 4) (j := 5) (C := RX4) (T := TX4) (N := 15) rfl rfl (by decide) in_X4 wl_1_158 dX4_needWhole_1 (?_ : Sd X 4 [(0, 14), (1, 0), (2, 0)] [0] _)
  refine sd_iconst hC dX4_needWhole_4 ⟨by decide, by decide⟩ (?_ : Sd X 5 [(0, 14), (1, 0), (2, 0)] [0, 0] _)
  refine sd_icmp_eq (tgt := 18) hC dX4_needWhole_5 rfl (?_ : Sd X 18 [(0, 14), (1, 0), (2, 0)] [] _) (?_ : Sd X 8 [(0, 14), (1, 0), (2, 0)] [] _)
  · refine sd_aload_n hC 14 dX4_needWhole_18 rfl (by decide) (by decide) (?_ : Sd X 19 [(0, 14), (1, 0), (2, 0)] [14] _)
    refine sd_get hC (ci := 4) (j := 6) (C := RX4) (T := TX4) (N := 15) rfl rfl (by decide) in_X4 wl_1_159 dX4_needWhole_19 (?_ : Sd X 22 [(0, 14), (1, 0), (2, 0)] [0] _)
    refine sd_iload_n hC dX4_needWhole_22 rfl (by decide) (?_ : Sd X 23 [(0, 14), (1, 0), (2, 0)] [0, 0] _)
    refine sd_icmp_lt (tgt := 34) hC dX4_needWhole_23 rfl (?_ : Sd X 34 [(0, 14), (1, 0), (2, 0)] [] _) (?_ : Sd X 26 [(0, 14), (1, 0), (2, 0)] [] _)
    · exact Sd.weak (by decide) (S_34)
    · refine sd_aload_n hC 14 dX4_needWhole_26 rfl (by decide) (by decide) (?_ : Sd X 27 [(0, 14), (1, 0), (2, 0)] [14] _)
      refine sd_get hC (ci := 4) (j := 6) (C := RX4) (T := TX4) (N := 15) rfl rfl (by decide) in_X4 wl_1_159 dX4_needWhole_27 (?_ : Sd X 30 [(0, 14), (1, 0), (2, 0)] [0] _)
      refine sd_iload_n hC dX4_needWhole_30 rfl (by decide) (?_ : Sd X 31 [(0, 14), (1, 0), (2, 0)] [0, 0] _)
      refine sd_icmp_le (tgt := 44) hC dX4_needWhole_31 rfl (?_ : Sd X 44 [(0, 14), (1, 0), (2, 0)] [] _) (?_ : Sd X 34 [(0, 14), (1, 0), (2, 0)] [] _)
      · refine sd_aload_n hC 14 dX4_needWhole_44 rfl (by decide) (by decide) (?_ : Sd X 45 [(0, 14), (1, 0), (2, 0)] [14] _)
        refine sd_aload_n hC 14 dX4_needWhole_45 rfl (by decide) (by decide) (?_ : Sd X 46 [(0, 14), (1, 0), (2, 0)] [14, 14] _)
        refine sd_get hC (ci := 4) (j := 6) (C := RX4) (T := TX4) (N := 15) rfl rfl (by decide) in_X4 wl_1_159 dX4_needWhole_46 (?_ : Sd X 49 [(0, 14), (1, 0), (2, 0)] [0, 14] _)
        refine sd_put hC (ci := 4) (j := 8) (C := RX4) (T := TX4) (N := 15) tyX4 tyX4_ok nmX4 rfl rfl (by decide) in_X4 rfl rfl wl_1_161 dX4_needWhole_49 (?_ : Sd X 52 [(0, 14), (1, 0), (2, 0)] [] _)
        refine sd_aload_n hC 14 dX4_needWhole_52 rfl (by decide) (by decide) (?_ : Sd X 53 [(0, 14), (1, 0), (2, 0)] [14] _)
        refine sd_inv0v (τ := []) (τr := []) (ci := 4) (q := (RX4, TX4, 15)) hC WG (M_X4_step _) rfl rfl rfl rfl  rfl rfl wl_2_190 wl_2_192 wp_2 wl_1_4 wl_2_193 hd_X4_step (by rw [e3]; decide) (by decide) dX4_needWhole_53 (?_ : Sd X 56 [(0, 14), (1, 0), (2, 0)] [] _)
        refine sd_iconst hC dX4_needWhole_56 ⟨by decide, by decide⟩ (?_ : Sd X 57 [(0, 14), (1, 0), (2, 0)] [0] _)
        exact sd_zreturn hC hT dX4_needWhole_57
      · exact Sd.weak (by decide) (S_34)
  · refine sd_aload_n hC 14 dX4_needWhole_8 rfl (by decide) (by decide) (?_ : Sd X 9 [(0, 14), (1, 0), (2, 0)] [14] _)
    refine sd_iconst hC dX4_needWhole_9 ⟨by decide, by decide⟩ (?_ : Sd X 10 [(0, 14), (1, 0), (2, 0)] [0, 14] _)
    refine sd_aload_n hC 14 dX4_needWhole_10 rfl (by decide) (by decide) (?_ : Sd X 11 [(0, 14), (1, 0), (2, 0)] [14, 0, 14] _)
    refine sd_get hC (ci := 4) (j := 3) (C := RX4) (T := TX4) (N := 15) rfl rfl (by decide) in_X4 wl_1_156 dX4_needWhole_11 (?_ : Sd X 14 [(0, 14), (1, 0), (2, 0)] [0, 0, 14] _)
    refine sd_inv0 (τ := []) (τr := [0, 0]) (ci := 4) (q := (RX4, TX4, 15)) hC WG (M_X4_flaw _) rfl rfl rfl rfl  rfl rfl wl_3_17 wl_3_19 wp_6 wl_1_4 wl_3_20 hd_X4_flaw (by rw [e3]; decide) (by decide) dX4_needWhole_14 (?_ : Sd X 17 [(0, 14), (1, 0), (2, 0)] [0] _)
    exact sd_zreturn hC hT dX4_needWhole_17

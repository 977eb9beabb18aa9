theorem hd_X10_hoursOf : yX10_hoursOf.cls ≠ "java/lang/invoke/MethodHandle" ∧ yX10_hoursOf.cls ≠ "java/lang/invoke/VarHandle" ∧ (parseMethodDescriptor yX10_hoursOf.desc).map (fun d => d.parameters.length) = some 1 := by decide +kernel
set_option maxRecDepth 100000 in
set_option maxHeartbeats 4000000 in
theorem M_X10_hoursOf (l : Launch) : Mt l yX10_hoursOf (Cond.code yX10_hoursOf cX10_hoursOf 2 (some .int) :: WALL) { frames := 7, cells := 0, slots := 0, locals := 172 } [20, 0] (some 0) T_X10_hoursOf := by
  refine Mt.mk (B := E_X10_hoursOf) (by decide +kernel) (by decide) (fun _ _ _ hh => hh) ?_
  intro X Q e1 e2 e3 hC hN hT
  subst e1
  have hC : CF X cX10_hoursOf RX10 WALL := hC
  have S_37 : Sd X 37 [(0, 20), (1, 0)] [0, 20] (B_X10_hoursOf_37 Q) := by
    unfold B_X10_hoursOf_37
    refine sd_inv0 (τ := []) (τr := [0]) (ci := 10) (q := (RX10, TX10, 45)) hC WG (M_X10_good _) rfl rfl rfl rfl  rfl rfl wl_7_171 wl_7_173 wp_105 wl_1_10 wl_7_174 hd_X10_good (by rw [e3]; decide) (by decide) dX10_hoursOf_37 (?_ : Sd X 40 [(0, 20), (1, 0)] [0] _)
    exact sd_ireturn hC hT dX10_hoursOf_40
  refine (?_ : Sd X 0 [(0, 20), (1, 0)] [] (E_X10_hoursOf Q))
  unfold E_X10_hoursOf
  refine sd_aload_n hC 20 dX10_hoursOf_0 rfl (by decide) (by decide) (?_ : Sd X 1 [(0, 20), (1, 0)] [20] _)
  refine sd_iconst hC dX10_hoursOf_1 ⟨by decide, by decide⟩ (?_ : Sd X 2 [(0, 20), (1, 0)] [0, 20] _)
  refine sd_put hC (ci := 10) (j := 0) (C := RX10) (T := TX10) (N := 45) tyX10 tyX10_ok nmX10 rfl rfl (by decide) in_X10 rfl rfl wl_5_164 dX10_hoursOf_2 (?_ : Sd X 5 [(0, 20), (1, 0)] [] _)
  refine sd_aload_n hC 20 dX10_hoursOf_5 rfl (by decide) (by decide) (?_ : Sd X 6 [(0, 20), (1, 0)] [20] _)
  refine sd_iload_n hC dX10_hoursOf_6 rfl (by decide) (?_ : Sd X 7 [(0, 20), (1, 0)] [0, 20] _)
  refine sd_inv0 (τ := []) (τr := [0]) (ci := 10) (q := (RX10, TX10, 45)) hC WG (M_X10_isOrder _) rfl rfl rfl rfl  rfl rfl wl_7_235 wl_7_237 wp_111 wl_1_10 wl_7_238 hd_X10_isOrder (by rw [e3]; decide) (by decide) dX10_hoursOf_7 (?_ : Sd X 10 [(0, 20), (1, 0)] [0] _)
  refine sd_if_ne (tgt := 19) hC dX10_hoursOf_10 rfl (?_ : Sd X 19 [(0, 20), (1, 0)] [] _) (?_ : Sd X 13 [(0, 20), (1, 0)] [] _)
  · refine sd_aload_n hC 20 dX10_hoursOf_19 rfl (by decide) (by decide) (?_ : Sd X 20 [(0, 20), (1, 0)] [20] _)
    refine sd_aload_n hC 20 dX10_hoursOf_20 rfl (by decide) (by decide) (?_ : Sd X 21 [(0, 20), (1, 0)] [20, 20] _)
    refine sd_iload_n hC dX10_hoursOf_21 rfl (by decide) (?_ : Sd X 22 [(0, 20), (1, 0)] [0, 20, 20] _)
    refine sd_inv0 (τ := [20]) (τr := [0]) (ci := 10) (q := (RX10, TX10, 45)) hC WG (M_X10_findsOrder _) rfl rfl rfl rfl  rfl rfl wl_7_91 wl_7_93 wp_87 wl_1_10 wl_7_94 hd_X10_findsOrder (by rw [e3]; decide) (by decide) dX10_hoursOf_22 (?_ : Sd X 25 [(0, 20), (1, 0)] [0, 20] _)
    refine sd_if_eq (tgt := 35) hC dX10_hoursOf_25 rfl (?_ : Sd X 35 [(0, 20), (1, 0)] [20] _) (?_ : Sd X 28 [(0, 20), (1, 0)] [20] _)
    · refine sd_bipush hC dX10_hoursOf_35 (by decide) (?_ : Sd X 37 [(0, 20), (1, 0)] [0, 20] _)
      exact Sd.weak (by decide) (S_37)
    · refine sd_aload_n hC 20 dX10_hoursOf_28 rfl (by decide) (by decide) (?_ : Sd X 29 [(0, 20), (1, 0)] [20, 20] _)
      refine sd_get hC (ci := 10) (j := 29) (C := RX10) (T := TX10) (N := 45) rfl rfl (by decide) in_X10 wl_5_193 dX10_hoursOf_29 (?_ : Sd X 32 [(0, 20), (1, 0)] [0, 20] _)
      refine sd_goto (tgt := 37) hC dX10_hoursOf_32 rfl (?_ : Sd X 37 [(0, 20), (1, 0)] [0, 20] _)
      exact Sd.weak (by decide) (S_37)
  · refine sd_aload_n hC 20 dX10_hoursOf_13 rfl (by decide) (by decide) (?_ : Sd X 14 [(0, 20), (1, 0)] [20] _)
    refine sd_iconst hC dX10_hoursOf_14 ⟨by decide, by decide⟩ (?_ : Sd X 15 [(0, 20), (1, 0)] [0, 20] _)
    refine sd_inv0 (τ := []) (τr := [0]) (ci := 10) (q := (RX10, TX10, 45)) hC WG (M_X10_refused _) rfl rfl rfl rfl  rfl rfl wl_6_72 wl_6_74 wp_63 wl_1_10 wl_6_75 hd_X10_refused (by rw [e3]; decide) (by decide) dX10_hoursOf_15 (?_ : Sd X 18 [(0, 20), (1, 0)] [0] _)
    exact sd_ireturn hC hT dX10_hoursOf_18
theorem wl_5_163 : Cond.methodLink RX10 3 Lib.objectInit ∈ WALL := tb5 (List.mem_of_getElem? (i := 163) rfl) rfl
theorem wl_3_229 : Cond.arrayClass .byte ∈ WALL := tb3 (List.mem_of_getElem? (i := 229) rfl) rfl
theorem wl_1_199 : Cond.arrayClass .long ∈ WALL := tb1 (List.mem_of_getElem? (i := 199) rfl) rfl
theorem wl_5_204 : Cond.fieldLink RX10 49 "NarrowRingsModel" "gone" "[I" ∈ WALL := tb5 (List.mem_of_getElem? (i := 204) rfl) rfl
theorem wl_5_205 : Cond.fieldLink RX10 52 "NarrowRingsModel" "still" "[I" ∈ WALL := tb5 (List.mem_of_getElem? (i := 205) rfl) rfl
theorem hd_X10_init : yX10_init.cls ≠ "java/lang/invoke/MethodHandle" ∧ yX10_init.cls ≠ "java/lang/invoke/VarHandle" ∧ (parseMethodDescriptor yX10_init.desc).map (fun d => d.parameters.length) = some 0 := by decide +kernel
set_option maxRecDepth 100000 in
set_option maxHeartbeats 4000000 in
theorem M_X10_init (l : Launch) : Mt l yX10_init (Cond.code yX10_init cX10_init 1 none :: WALL) { frames := 1, cells := 15, slots := 4863, locals := 20 } [20] none T_X10_init := by
  refine Mt.mk (B := E_X10_init) (by decide +kernel) (by decide) (fun _ _ _ hh => hh) ?_
  intro X Q e1 e2 e3 hC hN hT
  subst e1
  have hC : CF X cX10_init RX10 WALL := hC
  refine (?_ : Sd X 0 [(0, 20)] [] (E_X10_init Q))
  unfold E_X10_init
  refine sd_aload_n hC 20 dX10_init_0 rfl (by decide) (by decide) (?_ : Sd X 1 [(0, 20)] [20] _)
  refine sd_objInit hC (by decide) wl_5_163 wl_1_29 wl_1_30 (by rw [e3]; decide) (by decide) dX10_init_1 (?_ : Sd X 4 [(0, 20)] [] _)
  refine sd_aload_n hC 20 dX10_init_4 rfl (by decide) (by decide) (?_ : Sd X 5 [(0, 20)] [20] _)
  refine sd_iconst hC dX10_init_5 ⟨by decide, by decide⟩ (?_ : Sd X 6 [(0, 20)] [0, 20] _)
  refine sd_put hC (ci := 10) (j := 2) (C := RX10) (T := TX10) (N := 45) tyX10 tyX10_ok nmX10 rfl rfl (by decide) in_X10 rfl rfl wl_5_166 dX10_init_6 (?_ : Sd X 9 [(0, 20)] [] _)
  refine sd_aload_n hC 20 dX10_init_9 rfl (by decide) (by decide) (?_ : Sd X 10 [(0, 20)] [20] _)
  refine sd_sipush hC dX10_init_10 (by decide) (?_ : Sd X 13 [(0, 20)] [0, 20] _)
  refine sd_newa hC (e := 2) (List.mem_of_getElem? (i := 2) rfl) (fun C z => by cases z) rfl (by decide) wl_3_229 (by rw [e3]) (by rw [e3]) dX10_init_13 (?_ : Sd X 15 [(0, 20)] [102, 20] _)
  refine sd_putF hC (ci := 10) (j := 5) (C := RX10) (T := TX10) (N := 45) tyX10 tyX10_ok nmX10 rfl rfl (by decide) in_X10 rfl rfl rfl hN wl_5_169 dX10_init_15 (?_ : Sd X 18 [(0, 20)] [] _)
  refine sd_aload_n hC 20 dX10_init_18 rfl (by decide) (by decide) (?_ : Sd X 19 [(0, 20)] [20] _)
  refine sd_bipush hC dX10_init_19 (by decide) (?_ : Sd X 21 [(0, 20)] [0, 20] _)
  refine sd_newa hC (e := 0) (List.mem_of_getElem? (i := 0) rfl) (fun C z => by cases z) rfl (by decide) wl_1_76 (by rw [e3]) (by rw [e3]) dX10_init_21 (?_ : Sd X 23 [(0, 20)] [100, 20] _)
  refine sd_putF hC (ci := 10) (j := 16) (C := RX10) (T := TX10) (N := 45) tyX10 tyX10_ok nmX10 rfl rfl (by decide) in_X10 rfl rfl rfl hN wl_5_180 dX10_init_23 (?_ : Sd X 26 [(0, 20)] [] _)
  refine sd_aload_n hC 20 dX10_init_26 rfl (by decide) (by decide) (?_ : Sd X 27 [(0, 20)] [20] _)
  refine sd_bipush hC dX10_init_27 (by decide) (?_ : Sd X 29 [(0, 20)] [0, 20] _)
  refine sd_newa hC (e := 1) (List.mem_of_getElem? (i := 1) rfl) (fun C z => by cases z) rfl (by decide) wl_1_199 (by rw [e3]) (by rw [e3]) dX10_init_29 (?_ : Sd X 31 [(0, 20)] [101, 20] _)
  refine sd_putF hC (ci := 10) (j := 24) (C := RX10) (T := TX10) (N := 45) tyX10 tyX10_ok nmX10 rfl rfl (by decide) in_X10 rfl rfl rfl hN wl_5_188 dX10_init_31 (?_ : Sd X 34 [(0, 20)] [] _)
  refine sd_aload_n hC 20 dX10_init_34 rfl (by decide) (by decide) (?_ : Sd X 35 [(0, 20)] [20] _)
  refine sd_bipush hC dX10_init_35 (by decide) (?_ : Sd X 37 [(0, 20)] [0, 20] _)
  refine sd_newa hC (e := 0) (List.mem_of_getElem? (i := 0) rfl) (fun C z => by cases z) rfl (by decide) wl_1_76 (by rw [e3]) (by rw [e3]) dX10_init_37 (?_ : Sd X 39 [(0, 20)] [100, 20] _)
  refine sd_putF hC (ci := 10) (j := 25) (C := RX10) (T := TX10) (N := 45) tyX10 tyX10_ok nmX10 rfl rfl (by decide) in_X10 rfl rfl rfl hN wl_5_189 dX10_init_39 (?_ : Sd X 42 [(0, 20)] [] _)
  refine sd_aload_n hC 20 dX10_init_42 rfl (by decide) (by decide) (?_ : Sd X 43 [(0, 20)] [20] _)
  refine sd_bipush hC dX10_init_43 (by decide) (?_ : Sd X 45 [(0, 20)] [0, 20] _)
  refine sd_newa hC (e := 0) (List.mem_of_getElem? (i := 0) rfl) (fun C z => by cases z) rfl (by decide) wl_1_76 (by rw [e3]) (by rw [e3]) dX10_init_45 (?_ : Sd X 47 [(0, 20)] [100, 20] _)
  refine sd_putF hC (ci := 10) (j := 31) (C := RX10) (T := TX10) (N := 45) tyX10 tyX10_ok nmX10 rfl rfl (by decide) in_X10 rfl rfl rfl hN wl_5_195 dX10_init_47 (?_ : Sd X 50 [(0, 20)] [] _)
  refine sd_aload_n hC 20 dX10_init_50 rfl (by decide) (by decide) (?_ : Sd X 51 [(0, 20)] [20] _)
  refine sd_sipush hC dX10_init_51 (by decide) (?_ : Sd X 54 [(0, 20)] [0, 20] _)
  refine sd_newa hC (e := 0) (List.mem_of_getElem? (i := 0) rfl) (fun C z => by cases z) rfl (by decide) wl_1_76 (by rw [e3]) (by rw [e3]) dX10_init_54 (?_ : Sd X 56 [(0, 20)] [100, 20] _)
  refine sd_putF hC (ci := 10) (j := 32) (C := RX10) (T := TX10) (N := 45) tyX10 tyX10_ok nmX10 rfl rfl (by decide) in_X10 rfl rfl rfl hN wl_5_196 dX10_init_56 (?_ : Sd X 59 [(0, 20)] [] _)
  refine sd_aload_n hC 20 dX10_init_59 rfl (by decide) (by decide) (?_ : Sd X 60 [(0, 20)] [20] _)
  refine sd_sipush hC dX10_init_60 (by decide) (?_ : Sd X 63 [(0, 20)] [0, 20] _)
  refine sd_newa hC (e := 0) (List.mem_of_getElem? (i := 0) rfl) (fun C z => by cases z) rfl (by decide) wl_1_76 (by rw [e3]) (by rw [e3]) dX10_init_63 (?_ : Sd X 65 [(0, 20)] [100, 20] _)
  refine sd_putF hC (ci := 10) (j := 33) (C := RX10) (T := TX10) (N := 45) tyX10 tyX10_ok nmX10 rfl rfl (by decide) in_X10 rfl rfl rfl hN wl_5_197 dX10_init_65 (?_ : Sd X 68 [(0, 20)] [] _)
  refine sd_aload_n hC 20 dX10_init_68 rfl (by decide) (by decide) (?_ : Sd X 69 [(0, 20)] [20] _)
  refine sd_bipush hC dX10_init_69 (by decide) (?_ : Sd X 71 [(0, 20)] [0, 20] _)
  refine sd_newa hC (e := 0) (List.mem_of_getElem? (i := 0) rfl) (fun C z => by cases z) rfl (by decide) wl_1_76 (by rw [e3]) (by rw [e3]) dX10_init_71 (?_ : Sd X 73 [(0, 20)] [100, 20] _)
  refine sd_putF hC (ci := 10) (j := 34) (C := RX10) (T := TX10) (N := 45) tyX10 tyX10_ok nmX10 rfl rfl (by decide) in_X10 rfl rfl rfl hN wl_5_198 dX10_init_73 (?_ : Sd X 76 [(0, 20)] [] _)
  refine sd_aload_n hC 20 dX10_init_76 rfl (by decide) (by decide) (?_ : Sd X 77 [(0, 20)] [20] _)
  refine sd_bipush hC dX10_init_77 (by decide) (?_ : Sd X 79 [(0, 20)] [0, 20] _)
  refine sd_newa hC (e := 0) (List.mem_of_getElem? (i := 0) rfl) (fun C z => by cases z) rfl (by decide) wl_1_76 (by rw [e3]) (by rw [e3]) dX10_init_79 (?_ : Sd X 81 [(0, 20)] [100, 20] _)
  refine sd_putF hC (ci := 10) (j := 35) (C := RX10) (T := TX10) (N := 45) tyX10 tyX10_ok nmX10 rfl rfl (by decide) in_X10 rfl rfl rfl hN wl_5_199 dX10_init_81 (?_ : Sd X 84 [(0, 20)] [] _)
  refine sd_aload_n hC 20 dX10_init_84 rfl (by decide) (by decide) (?_ : Sd X 85 [(0, 20)] [20] _)
  refine sd_bipush hC dX10_init_85 (by decide) (?_ : Sd X 87 [(0, 20)] [0, 20] _)
  refine sd_newa hC (e := 0) (List.mem_of_getElem? (i := 0) rfl) (fun C z => by cases z) rfl (by decide) wl_1_76 (by rw [e3]) (by rw [e3]) dX10_init_87 (?_ : Sd X 89 [(0, 20)] [100, 20] _)
  refine sd_putF hC (ci := 10) (j := 36) (C := RX10) (T := TX10) (N := 45) tyX10 tyX10_ok nmX10 rfl rfl (by decide) in_X10 rfl rfl rfl hN wl_5_200 dX10_init_89 (?_ : Sd X 92 [(0, 20)] [] _)
  refine sd_aload_n hC 20 dX10_init_92 rfl (by decide) (by decide) (?_ : Sd X 93 [(0, 20)] [20] _)
  refine sd_bipush hC dX10_init_93 (by decide) (?_ : Sd X 95 [(0, 20)] [0, 20] _)
  refine sd_newa hC (e := 0) (List.mem_of_getElem? (i := 0) rfl) (fun C z => by cases z) rfl (by decide) wl_1_76 (by rw [e3]) (by rw [e3]) dX10_init_95 (?_ : Sd X 97 [(0, 20)] [100, 20] _)
  refine sd_putF hC (ci := 10) (j := 37) (C := RX10) (T := TX10) (N := 45) tyX10 tyX10_ok nmX10 rfl rfl (by decide) in_X10 rfl rfl rfl hN wl_5_201 dX10_init_97 (?_ : Sd X 100 [(0, 20)] [] _)
  refine sd_aload_n hC 20 dX10_init_100 rfl (by decide) (by decide) (?_ : Sd X 101 [(0, 20)] [20] _)
  refine sd_bipush hC dX10_init_101 (by decide) (?_ : Sd X 103 [(0, 20)] [0, 20] _)
  refine sd_newa hC (e := 0) (List.mem_of_getElem? (i := 0) rfl) (fun C z => by cases z) rfl (by decide) wl_1_76 (by rw [e3]) (by rw [e3]) dX10_init_103 (?_ : Sd X 105 [(0, 20)] [100, 20] _)
  refine sd_putF hC (ci := 10) (j := 40) (C := RX10) (T := TX10) (N := 45) tyX10 tyX10_ok nmX10 rfl rfl (by decide) in_X10 rfl rfl rfl hN wl_5_204 dX10_init_105 (?_ : Sd X 108 [(0, 20)] [] _)
  refine sd_aload_n hC 20 dX10_init_108 rfl (by decide) (by decide) (?_ : Sd X 109 [(0, 20)] [20] _)
  refine sd_bipush hC dX10_init_109 (by decide) (?_ : Sd X 111 [(0, 20)] [0, 20] _)
  refine sd_newa hC (e := 0) (List.mem_of_getElem? (i := 0) rfl) (fun C z => by cases z) rfl (by decide) wl_1_76 (by rw [e3]) (by rw [e3]) dX10_init_111 (?_ : Sd X 113 [(0, 20)] [100, 20] _)
  refine sd_putF hC (ci := 10) (j := 41) (C := RX10) (T := TX10) (N := 45) tyX10 tyX10_ok nmX10 rfl rfl (by decide) in_X10 rfl rfl rfl hN wl_5_205 dX10_init_113 (?_ : Sd X 116 [(0, 20)] [] _)
  refine sd_aload_n hC 20 dX10_init_116 rfl (by decide) (by decide) (?_ : Sd X 117 [(0, 20)] [20] _)
  refine sd_sipush hC dX10_init_117 (by decide) (?_ : Sd X 120 [(0, 20)] [0, 20] _)
  refine sd_newa hC (e := 0) (List.mem_of_getElem? (i := 0) rfl) (fun C z => by cases z) rfl (by decide) wl_1_76 (by rw [e3]) (by rw [e3]) dX10_init_120 (?_ : Sd X 122 [(0, 20)] [100, 20] _)
  refine sd_putF hC (ci := 10) (j := 42) (C := RX10) (T := TX10) (N := 45) tyX10 tyX10_ok nmX10 rfl rfl (by decide) in_X10 rfl rfl rfl hN wl_5_206 dX10_init_122 (?_ : Sd X 125 [(0, 20)] [] _)
  refine sd_aload_n hC 20 dX10_init_125 rfl (by decide) (by decide) (?_ : Sd X 126 [(0, 20)] [20] _)
  refine sd_bipush hC dX10_init_126 (by decide) (?_ : Sd X 128 [(0, 20)] [0, 20] _)
  refine sd_newa hC (e := 0) (List.mem_of_getElem? (i := 0) rfl) (fun C z => by cases z) rfl (by decide) wl_1_76 (by rw [e3]) (by rw [e3]) dX10_init_128 (?_ : Sd X 130 [(0, 20)] [100, 20] _)
  refine sd_putF hC (ci := 10) (j := 43) (C := RX10) (T := TX10) (N := 45) tyX10 tyX10_ok nmX10 rfl rfl (by decide) in_X10 rfl rfl rfl hN wl_5_207 dX10_init_130 (?_ : Sd X 133 [(0, 20)] [] _)
  exact sd_return hC hT dX10_init_133
theorem hd_X10_led : yX10_led.cls ≠ "java/lang/invoke/MethodHandle" ∧ yX10_led.cls ≠ "java/lang/invoke/VarHandle" ∧ (parseMethodDescriptor yX10_led.desc).map (fun d => d.parameters.length) = some 1 := by decide +kernel
set_option maxRecDepth 100000 in
set_option maxHeartbeats 4000000 in
theorem M_X10_led (l : Launch) : Mt l yX10_led (Cond.code yX10_led cX10_led 4 (some .int) :: WALL) { frames := 7, cells := 0, slots := 0, locals := 172 } [20, 0] (some 0) T_X10_led := by
  refine Mt.mk (B := E_X10_led) (by decide +kernel) (by decide) (fun _ _ _ hh => hh) ?_
  intro X Q e1 e2 e3 hC hN hT
  subst e1
  have hC : CF X cX10_led RX10 WALL := hC
  have S_54 : Sd X 54 [(0, 20), (1, 0), (2, 0), (3, 0)] [] (B_X10_led_54 Q) := by
    unfold B_X10_led_54
    refine sd_aload_n hC 20 dX10_led_54 rfl (by decide) (by decide) (?_ : Sd X 55 [(0, 20), (1, 0), (2, 0), (3, 0)] [20] _)
    refine sd_iconst hC dX10_led_55 ⟨by decide, by decide⟩ (?_ : Sd X 56 [(0, 20), (1, 0), (2, 0), (3, 0)] [0, 20] _)
    refine sd_put hC (ci := 10) (j := 0) (C := RX10) (T := TX10) (N := 45) tyX10 tyX10_ok nmX10 rfl rfl (by decide) in_X10 rfl rfl wl_5_164 dX10_led_56 (?_ : Sd X 59 [(0, 20), (1, 0), (2, 0), (3, 0)] [] _)
    refine sd_iconst hC dX10_led_59 ⟨by decide, by decide⟩ (?_ : Sd X 60 [(0, 20), (1, 0), (2, 0), (3, 0)] [0] _)
    exact sd_ireturn hC hT dX10_led_60
  have S_48 : ∀ (k9 : tK), Sd X 9 [(0, 20), (1, 0), (2, 0), (3, 0)] [] k9 → Sd X 48 [(0, 20), (1, 0), (2, 0), (3, 0)] [] (B_X10_led_48 Q k9) := by
    intro k9 h9
    unfold B_X10_led_48
    refine sd_iinc (Γ' := [(0, 20), (1, 0), (2, 0), (3, 0)]) hC dX10_led_48 (by decide) (by rw [e2]; decide) (by decide) (?_ : Sd X 51 [(0, 20), (1, 0), (2, 0), (3, 0)] [] _)
    refine sd_goto (tgt := 9) hC dX10_led_51 rfl (?_ : Sd X 9 [(0, 20), (1, 0), (2, 0), (3, 0)] [] _)
    exact Sd.weak (by decide) h9
  have S_9 : Sd X 9 [(0, 20), (1, 0), (2, 0), (3, 0)] [] (L_X10_led_9 Q) := by
    unfold L_X10_led_9
    refine Sd.loop (fun k9 h9 => ?_)
    refine sd_aload_n hC 20 dX10_led_9 rfl (by decide) (by decide) (?_ : Sd X 10 [(0, 20), (1, 0), (2, 0), (3, 0)] [20] _)
    refine sd_get hC (ci := 10) (j := 3) (C := RX10) (T := TX10) (N := 45) rfl rfl (by decide) in_X10 wl_5_167 dX10_led_10 (?_ : Sd X 13 [(0, 20), (1, 0), (2, 0), (3, 0)] [19] _)
    refine sd_ifnull (tgt := 54) hC (by decide) dX10_led_13 rfl (?_ : Sd X 54 [(0, 20), (1, 0), (2, 0), (3, 0)] [] _) (?_ : Sd X 16 [(0, 20), (1, 0), (2, 0), (3, 0)] [] _)
    · exact Sd.weak (by decide) (S_54)
    · refine sd_iload_n hC dX10_led_16 rfl (by decide) (?_ : Sd X 17 [(0, 20), (1, 0), (2, 0), (3, 0)] [0] _)
      refine sd_aload_n hC 20 dX10_led_17 rfl (by decide) (by decide) (?_ : Sd X 18 [(0, 20), (1, 0), (2, 0), (3, 0)] [20, 0] _)
      refine sd_get hC (ci := 10) (j := 3) (C := RX10) (T := TX10) (N := 45) rfl rfl (by decide) in_X10 wl_5_167 dX10_led_18 (?_ : Sd X 21 [(0, 20), (1, 0), (2, 0), (3, 0)] [19, 0] _)
      refine sd_getN hC (ci := 9) (j := 4) (C := RX9) (T := TX9) (N := 28) (host := "NarrowRingsModel") rfl rfl (by decide) in_X9 (by decide) dX10_led_21 (?_ : Sd X 24 [(0, 20), (1, 0), (2, 0), (3, 0)] [0, 0] _)
      refine sd_icmp_ge (tgt := 54) hC dX10_led_24 rfl (?_ : Sd X 54 [(0, 20), (1, 0), (2, 0), (3, 0)] [] _) (?_ : Sd X 27 [(0, 20), (1, 0), (2, 0), (3, 0)] [] _)
      · exact Sd.weak (by decide) (S_54)
      · refine sd_aload_n hC 20 dX10_led_27 rfl (by decide) (by decide) (?_ : Sd X 28 [(0, 20), (1, 0), (2, 0), (3, 0)] [20] _)
        refine sd_iload_n hC dX10_led_28 rfl (by decide) (?_ : Sd X 29 [(0, 20), (1, 0), (2, 0), (3, 0)] [0, 20] _)
        refine sd_inv0 (τ := []) (τr := [0]) (ci := 10) (q := (RX10, TX10, 45)) hC WG (M_X10_findsOrder _) rfl rfl rfl rfl  rfl rfl wl_7_91 wl_7_93 wp_87 wl_1_10 wl_7_94 hd_X10_findsOrder (by rw [e3]; decide) (by decide) dX10_led_29 (?_ : Sd X 32 [(0, 20), (1, 0), (2, 0), (3, 0)] [0] _)
        refine sd_if_eq (tgt := 38) hC dX10_led_32 rfl (?_ : Sd X 38 [(0, 20), (1, 0), (2, 0), (3, 0)] [] _) (?_ : Sd X 35 [(0, 20), (1, 0), (2, 0), (3, 0)] [] _)
        · refine sd_iload_n hC dX10_led_38 rfl (by decide) (?_ : Sd X 39 [(0, 20), (1, 0), (2, 0), (3, 0)] [0] _)
          refine sd_iload_n hC dX10_led_39 rfl (by decide) (?_ : Sd X 40 [(0, 20), (1, 0), (2, 0), (3, 0)] [0, 0] _)
          refine sd_icmp_ne (tgt := 45) hC dX10_led_40 rfl (?_ : Sd X 45 [(0, 20), (1, 0), (2, 0), (3, 0)] [] _) (?_ : Sd X 43 [(0, 20), (1, 0), (2, 0), (3, 0)] [] _)
          · refine sd_iinc (Γ' := [(0, 20), (1, 0), (2, 0), (3, 0)]) hC dX10_led_45 (by decide) (by rw [e2]; decide) (by decide) (?_ : Sd X 48 [(0, 20), (1, 0), (2, 0), (3, 0)] [] _)
            exact Sd.weak (by decide) (S_48 k9 h9)
          · refine sd_iload_n hC dX10_led_43 rfl (by decide) (?_ : Sd X 44 [(0, 20), (1, 0), (2, 0), (3, 0)] [0] _)
            exact sd_ireturn hC hT dX10_led_44
        · refine sd_goto (tgt := 48) hC dX10_led_35 rfl (?_ : Sd X 48 [(0, 20), (1, 0), (2, 0), (3, 0)] [] _)
          exact Sd.weak (by decide) (S_48 k9 h9)
  refine (?_ : Sd X 0 [(0, 20), (1, 0)] [] (E_X10_led Q))
  unfold E_X10_led
  refine sd_aload_n hC 20 dX10_led_0 rfl (by decide) (by decide) (?_ : Sd X 1 [(0, 20), (1, 0)] [20] _)
  refine sd_iconst hC dX10_led_1 ⟨by decide, by decide⟩ (?_ : Sd X 2 [(0, 20), (1, 0)] [0, 20] _)
  refine sd_put hC (ci := 10) (j := 0) (C := RX10) (T := TX10) (N := 45) tyX10 tyX10_ok nmX10 rfl rfl (by decide) in_X10 rfl rfl wl_5_164 dX10_led_2 (?_ : Sd X 5 [(0, 20), (1, 0)] [] _)
  refine sd_iconst hC dX10_led_5 ⟨by decide, by decide⟩ (?_ : Sd X 6 [(0, 20), (1, 0)] [0] _)
  refine sd_istore_n (Γ' := [(0, 20), (1, 0), (2, 0)]) hC dX10_led_6 rfl (by rw [e2]; decide) (by decide) (?_ : Sd X 7 [(0, 20), (1, 0), (2, 0)] [] _)
  refine sd_iconst hC dX10_led_7 ⟨by decide, by decide⟩ (?_ : Sd X 8 [(0, 20), (1, 0), (2, 0)] [0] _)
  refine sd_istore_n (Γ' := [(0, 20), (1, 0), (2, 0), (3, 0)]) hC dX10_led_8 rfl (by rw [e2]; decide) (by decide) (?_ : Sd X 9 [(0, 20), (1, 0), (2, 0), (3, 0)] [] _)
  exact Sd.weak (by decide) (S_9)
theorem hd_X10_load : yX10_load.cls ≠ "java/lang/invoke/MethodHandle" ∧ yX10_load.cls ≠ "java/lang/invoke/VarHandle" ∧ (parseMethodDescriptor yX10_load.desc).map (fun d => d.parameters.length) = some 2 := by decide +kernel
set_option maxRecDepth 100000 in
set_option maxHeartbeats 4000000 in
theorem M_X10_load (l : Launch) : Mt l yX10_load (Cond.code yX10_load cX10_load 4 (some .int) :: WALL) { frames := 1, cells := 0, slots := 0, locals := 22 } [20, 0, 0] (some 0) T_X10_load := by
  refine Mt.mk (B := E_X10_load) (by decide +kernel) (by decide) (fun _ _ _ hh => hh) ?_
  intro X Q e1 e2 e3 hC hN hT
  subst e1
  have hC : CF X cX10_load RX10 WALL := hC
  have S_34 : Sd X 34 [(0, 20), (1, 0), (2, 0)] [] (B_X10_load_34 Q) := by
    unfold B_X10_load_34
    refine sd_aload_n hC 20 dX10_load_34 rfl (by decide) (by decide) (?_ : Sd X 35 [(0, 20), (1, 0), (2, 0)] [20] _)
    refine sd_iconst hC dX10_load_35 ⟨by decide, by decide⟩ (?_ : Sd X 36 [(0, 20), (1, 0), (2, 0)] [0, 20] _)
    refine sd_inv0 (τ := []) (τr := [0]) (ci := 10) (q := (RX10, TX10, 45)) hC WG (M_X10_refused _) rfl rfl rfl rfl  rfl rfl wl_6_72 wl_6_74 wp_63 wl_1_10 wl_6_75 hd_X10_refused (by rw [e3]; decide) (by decide) dX10_load_36 (?_ : Sd X 39 [(0, 20), (1, 0), (2, 0)] [0] _)
    exact sd_ireturn hC hT dX10_load_39
  have S_175 : Sd X 175 [(0, 20), (1, 0), (2, 0), (3, 0)] [0, 20] (B_X10_load_175 Q) := by
    unfold B_X10_load_175
    refine sd_inv0 (τ := []) (τr := [0]) (ci := 10) (q := (RX10, TX10, 45)) hC WG (M_X10_good _) rfl rfl rfl rfl  rfl rfl wl_7_171 wl_7_173 wp_105 wl_1_10 wl_7_174 hd_X10_good (by rw [e3]; decide) (by decide) dX10_load_175 (?_ : Sd X 178 [(0, 20), (1, 0), (2, 0), (3, 0)] [0] _)
    exact sd_ireturn hC hT dX10_load_178
  have S_163 : Sd X 163 [(0, 20), (1, 0), (2, 0), (3, 0)] [20] (B_X10_load_163 Q) := by
    unfold B_X10_load_163
    refine sd_aload_n hC 20 dX10_load_163 rfl (by decide) (by decide) (?_ : Sd X 164 [(0, 20), (1, 0), (2, 0), (3, 0)] [20, 20] _)
    refine sd_get hC (ci := 10) (j := 32) (C := RX10) (T := TX10) (N := 45) rfl rfl (by decide) in_X10 wl_5_196 dX10_load_164 (?_ : Sd X 167 [(0, 20), (1, 0), (2, 0), (3, 0)] [100, 20] _)
    refine sd_iload_n hC dX10_load_167 rfl (by decide) (?_ : Sd X 168 [(0, 20), (1, 0), (2, 0), (3, 0)] [0, 100, 20] _)
    refine sd_iconst hC dX10_load_168 ⟨by decide, by decide⟩ (?_ : Sd X 169 [(0, 20), (1, 0), (2, 0), (3, 0)] [0, 0, 100, 20] _)
    refine sd_iadd hC dX10_load_169 (?_ : Sd X 170 [(0, 20), (1, 0), (2, 0), (3, 0)] [0, 100, 20] _)
    refine sd_iaload hC dX10_load_170 (?_ : Sd X 171 [(0, 20), (1, 0), (2, 0), (3, 0)] [0, 20] _)
    refine sd_goto (tgt := 175) hC dX10_load_171 rfl (?_ : Sd X 175 [(0, 20), (1, 0), (2, 0), (3, 0)] [0, 20] _)
    exact Sd.weak (by decide) (S_175)
  refine (?_ : Sd X 0 [(0, 20), (1, 0), (2, 0)] [] (E_X10_load Q))
  unfold E_X10_load
  refine sd_aload_n hC 20 dX10_load_0 rfl (by decide) (by decide) (?_ : Sd X 1 [(0, 20), (1, 0), (2, 0)] [20] _)
  refine sd_iconst hC dX10_load_1 ⟨by decide, by decide⟩ (?_ : Sd X 2 [(0, 20), (1, 0), (2, 0)] [0, 20] _)
  refine sd_put hC (ci := 10) (j := 0) (C := RX10) (T := TX10) (N := 45) tyX10 tyX10_ok nmX10 rfl rfl (by decide) in_X10 rfl rfl wl_5_164 dX10_load_2 (?_ : Sd X 5 [(0, 20), (1, 0), (2, 0)] [] _)
  refine sd_aload_n hC 20 dX10_load_5 rfl (by decide) (by decide) (?_ : Sd X 6 [(0, 20), (1, 0), (2, 0)] [20] _)
  refine sd_get hC (ci := 10) (j := 3) (C := RX10) (T := TX10) (N := 45) rfl rfl (by decide) in_X10 wl_5_167 dX10_load_6 (?_ : Sd X 9 [(0, 20), (1, 0), (2, 0)] [19] _)
  refine sd_ifnull (tgt := 34) hC (by decide) dX10_load_9 rfl (?_ : Sd X 34 [(0, 20), (1, 0), (2, 0)] [] _) (?_ : Sd X 12 [(0, 20), (1, 0), (2, 0)] [] _)
  · exact Sd.weak (by decide) (S_34)
  · refine sd_iload_n hC dX10_load_12 rfl (by decide) (?_ : Sd X 13 [(0, 20), (1, 0), (2, 0)] [0] _)
    refine sd_if_lt (tgt := 34) hC dX10_load_13 rfl (?_ : Sd X 34 [(0, 20), (1, 0), (2, 0)] [] _) (?_ : Sd X 16 [(0, 20), (1, 0), (2, 0)] [] _)
    · exact Sd.weak (by decide) (S_34)
    · refine sd_iload_n hC dX10_load_16 rfl (by decide) (?_ : Sd X 17 [(0, 20), (1, 0), (2, 0)] [0] _)
      refine sd_aload_n hC 20 dX10_load_17 rfl (by decide) (by decide) (?_ : Sd X 18 [(0, 20), (1, 0), (2, 0)] [20, 0] _)
      refine sd_get hC (ci := 10) (j := 38) (C := RX10) (T := TX10) (N := 45) rfl rfl (by decide) in_X10 wl_5_202 dX10_load_18 (?_ : Sd X 21 [(0, 20), (1, 0), (2, 0)] [0, 0] _)
      refine sd_icmp_ge (tgt := 34) hC dX10_load_21 rfl (?_ : Sd X 34 [(0, 20), (1, 0), (2, 0)] [] _) (?_ : Sd X 24 [(0, 20), (1, 0), (2, 0)] [] _)
      · exact Sd.weak (by decide) (S_34)
      · refine sd_iload_n hC dX10_load_24 rfl (by decide) (?_ : Sd X 25 [(0, 20), (1, 0), (2, 0)] [0] _)
        refine sd_iconst hC dX10_load_25 ⟨by decide, by decide⟩ (?_ : Sd X 26 [(0, 20), (1, 0), (2, 0)] [0, 0] _)
        refine sd_bipush hC dX10_load_26 (by decide) (?_ : Sd X 28 [(0, 20), (1, 0), (2, 0)] [0, 0, 0] _)
        refine sd_invs (τ := []) (τs := [0, 0, 0]) hC false "" WG (M_X10_in _) rfl rfl rfl rfl wl_6_238 wl_6_239 wl_1_10 wl_7_0 hd_X10_in (by rw [e3]; decide) (by decide) dX10_load_28 (?_ : Sd X 31 [(0, 20), (1, 0), (2, 0)] [0] _)
        refine sd_if_ne (tgt := 40) hC dX10_load_31 rfl (?_ : Sd X 40 [(0, 20), (1, 0), (2, 0)] [] _) (?_ : Sd X 34 [(0, 20), (1, 0), (2, 0)] [] _)
        · refine sd_bipush hC dX10_load_40 (by decide) (?_ : Sd X 42 [(0, 20), (1, 0), (2, 0)] [0] _)
          refine sd_iload_n hC dX10_load_42 rfl (by decide) (?_ : Sd X 43 [(0, 20), (1, 0), (2, 0)] [0, 0] _)
          refine sd_imul hC dX10_load_43 (?_ : Sd X 44 [(0, 20), (1, 0), (2, 0)] [0] _)
          refine sd_istore_n (Γ' := [(0, 20), (1, 0), (2, 0), (3, 0)]) hC dX10_load_44 rfl (by rw [e2]; decide) (by decide) (?_ : Sd X 45 [(0, 20), (1, 0), (2, 0), (3, 0)] [] _)
          refine sd_iload_n hC dX10_load_45 rfl (by decide) (?_ : Sd X 46 [(0, 20), (1, 0), (2, 0), (3, 0)] [0] _)
          refine sd_tsw (td := 205) hC dX10_load_46 rfl rfl ?_ (?_ : Sd X 205 [(0, 20), (1, 0), (2, 0), (3, 0)] [] _)
          · intro j kj hj
            match j, hj with
            | 0, hj =>
              cases hj
              refine ⟨_, 88, rfl, rfl, (?_ : Sd X 88 [(0, 20), (1, 0), (2, 0), (3, 0)] [] _)⟩
              refine sd_aload_n hC 20 dX10_load_88 rfl (by decide) (by decide) (?_ : Sd X 89 [(0, 20), (1, 0), (2, 0), (3, 0)] [20] _)
              refine sd_aload_n hC 20 dX10_load_89 rfl (by decide) (by decide) (?_ : Sd X 90 [(0, 20), (1, 0), (2, 0), (3, 0)] [20, 20] _)
              refine sd_get hC (ci := 10) (j := 34) (C := RX10) (T := TX10) (N := 45) rfl rfl (by decide) in_X10 wl_5_198 dX10_load_90 (?_ : Sd X 93 [(0, 20), (1, 0), (2, 0), (3, 0)] [100, 20] _)
              refine sd_iload_n hC dX10_load_93 rfl (by decide) (?_ : Sd X 94 [(0, 20), (1, 0), (2, 0), (3, 0)] [0, 100, 20] _)
              refine sd_iaload hC dX10_load_94 (?_ : Sd X 95 [(0, 20), (1, 0), (2, 0), (3, 0)] [0, 20] _)
              refine sd_inv0 (τ := []) (τr := [0]) (ci := 10) (q := (RX10, TX10, 45)) hC WG (M_X10_good _) rfl rfl rfl rfl  rfl rfl wl_7_171 wl_7_173 wp_105 wl_1_10 wl_7_174 hd_X10_good (by rw [e3]; decide) (by decide) dX10_load_95 (?_ : Sd X 98 [(0, 20), (1, 0), (2, 0), (3, 0)] [0] _)
              exact sd_ireturn hC hT dX10_load_98
            | 1, hj =>
              cases hj
              refine ⟨_, 99, rfl, rfl, (?_ : Sd X 99 [(0, 20), (1, 0), (2, 0), (3, 0)] [] _)⟩
              refine sd_aload_n hC 20 dX10_load_99 rfl (by decide) (by decide) (?_ : Sd X 100 [(0, 20), (1, 0), (2, 0), (3, 0)] [20] _)
              refine sd_aload_n hC 20 dX10_load_100 rfl (by decide) (by decide) (?_ : Sd X 101 [(0, 20), (1, 0), (2, 0), (3, 0)] [20, 20] _)
              refine sd_get hC (ci := 10) (j := 32) (C := RX10) (T := TX10) (N := 45) rfl rfl (by decide) in_X10 wl_5_196 dX10_load_101 (?_ : Sd X 104 [(0, 20), (1, 0), (2, 0), (3, 0)] [100, 20] _)
              refine sd_iload_n hC dX10_load_104 rfl (by decide) (?_ : Sd X 105 [(0, 20), (1, 0), (2, 0), (3, 0)] [0, 100, 20] _)
              refine sd_iconst hC dX10_load_105 ⟨by decide, by decide⟩ (?_ : Sd X 106 [(0, 20), (1, 0), (2, 0), (3, 0)] [0, 0, 100, 20] _)
              refine sd_iadd hC dX10_load_106 (?_ : Sd X 107 [(0, 20), (1, 0), (2, 0), (3, 0)] [0, 100, 20] _)
              refine sd_iaload hC dX10_load_107 (?_ : Sd X 108 [(0, 20), (1, 0), (2, 0), (3, 0)] [0, 20] _)
              refine sd_inv0 (τ := []) (τr := [0]) (ci := 10) (q := (RX10, TX10, 45)) hC WG (M_X10_good _) rfl rfl rfl rfl  rfl rfl wl_7_171 wl_7_173 wp_105 wl_1_10 wl_7_174 hd_X10_good (by rw [e3]; decide) (by decide) dX10_load_108 (?_ : Sd X 111 [(0, 20), (1, 0), (2, 0), (3, 0)] [0] _)
              exact sd_ireturn hC hT dX10_load_111
            | 2, hj =>
              cases hj
              refine ⟨_, 112, rfl, rfl, (?_ : Sd X 112 [(0, 20), (1, 0), (2, 0), (3, 0)] [] _)⟩
              refine sd_aload_n hC 20 dX10_load_112 rfl (by decide) (by decide) (?_ : Sd X 113 [(0, 20), (1, 0), (2, 0), (3, 0)] [20] _)
              refine sd_aload_n hC 20 dX10_load_113 rfl (by decide) (by decide) (?_ : Sd X 114 [(0, 20), (1, 0), (2, 0), (3, 0)] [20, 20] _)
              refine sd_get hC (ci := 10) (j := 32) (C := RX10) (T := TX10) (N := 45) rfl rfl (by decide) in_X10 wl_5_196 dX10_load_114 (?_ : Sd X 117 [(0, 20), (1, 0), (2, 0), (3, 0)] [100, 20] _)
              refine sd_iload_n hC dX10_load_117 rfl (by decide) (?_ : Sd X 118 [(0, 20), (1, 0), (2, 0), (3, 0)] [0, 100, 20] _)
              refine sd_iconst hC dX10_load_118 ⟨by decide, by decide⟩ (?_ : Sd X 119 [(0, 20), (1, 0), (2, 0), (3, 0)] [0, 0, 100, 20] _)
              refine sd_iadd hC dX10_load_119 (?_ : Sd X 120 [(0, 20), (1, 0), (2, 0), (3, 0)] [0, 100, 20] _)
              refine sd_iaload hC dX10_load_120 (?_ : Sd X 121 [(0, 20), (1, 0), (2, 0), (3, 0)] [0, 20] _)
              refine sd_inv0 (τ := []) (τr := [0]) (ci := 10) (q := (RX10, TX10, 45)) hC WG (M_X10_good _) rfl rfl rfl rfl  rfl rfl wl_7_171 wl_7_173 wp_105 wl_1_10 wl_7_174 hd_X10_good (by rw [e3]; decide) (by decide) dX10_load_121 (?_ : Sd X 124 [(0, 20), (1, 0), (2, 0), (3, 0)] [0] _)
              exact sd_ireturn hC hT dX10_load_124
            | 3, hj =>
              cases hj
              refine ⟨_, 125, rfl, rfl, (?_ : Sd X 125 [(0, 20), (1, 0), (2, 0), (3, 0)] [] _)⟩
              refine sd_aload_n hC 20 dX10_load_125 rfl (by decide) (by decide) (?_ : Sd X 126 [(0, 20), (1, 0), (2, 0), (3, 0)] [20] _)
              refine sd_aload_n hC 20 dX10_load_126 rfl (by decide) (by decide) (?_ : Sd X 127 [(0, 20), (1, 0), (2, 0), (3, 0)] [20, 20] _)
              refine sd_get hC (ci := 10) (j := 32) (C := RX10) (T := TX10) (N := 45) rfl rfl (by decide) in_X10 wl_5_196 dX10_load_127 (?_ : Sd X 130 [(0, 20), (1, 0), (2, 0), (3, 0)] [100, 20] _)
              refine sd_iload_n hC dX10_load_130 rfl (by decide) (?_ : Sd X 131 [(0, 20), (1, 0), (2, 0), (3, 0)] [0, 100, 20] _)
              refine sd_iconst hC dX10_load_131 ⟨by decide, by decide⟩ (?_ : Sd X 132 [(0, 20), (1, 0), (2, 0), (3, 0)] [0, 0, 100, 20] _)
              refine sd_iadd hC dX10_load_132 (?_ : Sd X 133 [(0, 20), (1, 0), (2, 0), (3, 0)] [0, 100, 20] _)
              refine sd_iaload hC dX10_load_133 (?_ : Sd X 134 [(0, 20), (1, 0), (2, 0), (3, 0)] [0, 20] _)
              refine sd_inv0 (τ := []) (τr := [0]) (ci := 10) (q := (RX10, TX10, 45)) hC WG (M_X10_good _) rfl rfl rfl rfl  rfl rfl wl_7_171 wl_7_173 wp_105 wl_1_10 wl_7_174 hd_X10_good (by rw [e3]; decide) (by decide) dX10_load_134 (?_ : Sd X 137 [(0, 20), (1, 0), (2, 0), (3, 0)] [0] _)
              exact sd_ireturn hC hT dX10_load_137
            | 4, hj =>
              cases hj
              refine ⟨_, 138, rfl, rfl, (?_ : Sd X 138 [(0, 20), (1, 0), (2, 0), (3, 0)] [] _)⟩
              refine sd_aload_n hC 20 dX10_load_138 rfl (by decide) (by decide) (?_ : Sd X 139 [(0, 20), (1, 0), (2, 0), (3, 0)] [20] _)
              refine sd_aload_n hC 20 dX10_load_139 rfl (by decide) (by decide) (?_ : Sd X 140 [(0, 20), (1, 0), (2, 0), (3, 0)] [20, 20] _)
              refine sd_get hC (ci := 10) (j := 32) (C := RX10) (T := TX10) (N := 45) rfl rfl (by decide) in_X10 wl_5_196 dX10_load_140 (?_ : Sd X 143 [(0, 20), (1, 0), (2, 0), (3, 0)] [100, 20] _)
              refine sd_iload_n hC dX10_load_143 rfl (by decide) (?_ : Sd X 144 [(0, 20), (1, 0), (2, 0), (3, 0)] [0, 100, 20] _)
              refine sd_iconst hC dX10_load_144 ⟨by decide, by decide⟩ (?_ : Sd X 145 [(0, 20), (1, 0), (2, 0), (3, 0)] [0, 0, 100, 20] _)
              refine sd_iadd hC dX10_load_145 (?_ : Sd X 146 [(0, 20), (1, 0), (2, 0), (3, 0)] [0, 100, 20] _)
              refine sd_iaload hC dX10_load_146 (?_ : Sd X 147 [(0, 20), (1, 0), (2, 0), (3, 0)] [0, 20] _)
              refine sd_iconst hC dX10_load_147 ⟨by decide, by decide⟩ (?_ : Sd X 148 [(0, 20), (1, 0), (2, 0), (3, 0)] [0, 0, 20] _)
              refine sd_icmp_eq (tgt := 163) hC dX10_load_148 rfl (?_ : Sd X 163 [(0, 20), (1, 0), (2, 0), (3, 0)] [20] _) (?_ : Sd X 151 [(0, 20), (1, 0), (2, 0), (3, 0)] [20] _)
              · exact Sd.weak (by decide) (S_163)
              · refine sd_aload_n hC 20 dX10_load_151 rfl (by decide) (by decide) (?_ : Sd X 152 [(0, 20), (1, 0), (2, 0), (3, 0)] [20, 20] _)
                refine sd_get hC (ci := 10) (j := 32) (C := RX10) (T := TX10) (N := 45) rfl rfl (by decide) in_X10 wl_5_196 dX10_load_152 (?_ : Sd X 155 [(0, 20), (1, 0), (2, 0), (3, 0)] [100, 20] _)
                refine sd_iload_n hC dX10_load_155 rfl (by decide) (?_ : Sd X 156 [(0, 20), (1, 0), (2, 0), (3, 0)] [0, 100, 20] _)
                refine sd_iconst hC dX10_load_156 ⟨by decide, by decide⟩ (?_ : Sd X 157 [(0, 20), (1, 0), (2, 0), (3, 0)] [0, 0, 100, 20] _)
                refine sd_iadd hC dX10_load_157 (?_ : Sd X 158 [(0, 20), (1, 0), (2, 0), (3, 0)] [0, 100, 20] _)
                refine sd_iaload hC dX10_load_158 (?_ : Sd X 159 [(0, 20), (1, 0), (2, 0), (3, 0)] [0, 20] _)
                refine sd_iconst hC dX10_load_159 ⟨by decide, by decide⟩ (?_ : Sd X 160 [(0, 20), (1, 0), (2, 0), (3, 0)] [0, 0, 20] _)
                refine sd_icmp_ne (tgt := 174) hC dX10_load_160 rfl (?_ : Sd X 174 [(0, 20), (1, 0), (2, 0), (3, 0)] [20] _) (?_ : Sd X 163 [(0, 20), (1, 0), (2, 0), (3, 0)] [20] _)
                · refine sd_iconst hC dX10_load_174 ⟨by decide, by decide⟩ (?_ : Sd X 175 [(0, 20), (1, 0), (2, 0), (3, 0)] [0, 20] _)
                  exact Sd.weak (by decide) (S_175)
                · exact Sd.weak (by decide) (S_163)
            | 5, hj =>
              cases hj
              refine ⟨_, 179, rfl, rfl, (?_ : Sd X 179 [(0, 20), (1, 0), (2, 0), (3, 0)] [] _)⟩
              refine sd_aload_n hC 20 dX10_load_179 rfl (by decide) (by decide) (?_ : Sd X 180 [(0, 20), (1, 0), (2, 0), (3, 0)] [20] _)
              refine sd_aload_n hC 20 dX10_load_180 rfl (by decide) (by decide) (?_ : Sd X 181 [(0, 20), (1, 0), (2, 0), (3, 0)] [20, 20] _)
              refine sd_get hC (ci := 10) (j := 32) (C := RX10) (T := TX10) (N := 45) rfl rfl (by decide) in_X10 wl_5_196 dX10_load_181 (?_ : Sd X 184 [(0, 20), (1, 0), (2, 0), (3, 0)] [100, 20] _)
              refine sd_iload_n hC dX10_load_184 rfl (by decide) (?_ : Sd X 185 [(0, 20), (1, 0), (2, 0), (3, 0)] [0, 100, 20] _)
              refine sd_iconst hC dX10_load_185 ⟨by decide, by decide⟩ (?_ : Sd X 186 [(0, 20), (1, 0), (2, 0), (3, 0)] [0, 0, 100, 20] _)
              refine sd_iadd hC dX10_load_186 (?_ : Sd X 187 [(0, 20), (1, 0), (2, 0), (3, 0)] [0, 100, 20] _)
              refine sd_iaload hC dX10_load_187 (?_ : Sd X 188 [(0, 20), (1, 0), (2, 0), (3, 0)] [0, 20] _)
              refine sd_inv0 (τ := []) (τr := [0]) (ci := 10) (q := (RX10, TX10, 45)) hC WG (M_X10_good _) rfl rfl rfl rfl  rfl rfl wl_7_171 wl_7_173 wp_105 wl_1_10 wl_7_174 hd_X10_good (by rw [e3]; decide) (by decide) dX10_load_188 (?_ : Sd X 191 [(0, 20), (1, 0), (2, 0), (3, 0)] [0] _)
              exact sd_ireturn hC hT dX10_load_191
            | 6, hj =>
              cases hj
              refine ⟨_, 192, rfl, rfl, (?_ : Sd X 192 [(0, 20), (1, 0), (2, 0), (3, 0)] [] _)⟩
              refine sd_aload_n hC 20 dX10_load_192 rfl (by decide) (by decide) (?_ : Sd X 193 [(0, 20), (1, 0), (2, 0), (3, 0)] [20] _)
              refine sd_aload_n hC 20 dX10_load_193 rfl (by decide) (by decide) (?_ : Sd X 194 [(0, 20), (1, 0), (2, 0), (3, 0)] [20, 20] _)
              refine sd_get hC (ci := 10) (j := 32) (C := RX10) (T := TX10) (N := 45) rfl rfl (by decide) in_X10 wl_5_196 dX10_load_194 (?_ : Sd X 197 [(0, 20), (1, 0), (2, 0), (3, 0)] [100, 20] _)
              refine sd_iload_n hC dX10_load_197 rfl (by decide) (?_ : Sd X 198 [(0, 20), (1, 0), (2, 0), (3, 0)] [0, 100, 20] _)
              refine sd_iconst hC dX10_load_198 ⟨by decide, by decide⟩ (?_ : Sd X 199 [(0, 20), (1, 0), (2, 0), (3, 0)] [0, 0, 100, 20] _)
              refine sd_iadd hC dX10_load_199 (?_ : Sd X 200 [(0, 20), (1, 0), (2, 0), (3, 0)] [0, 100, 20] _)
              refine sd_iaload hC dX10_load_200 (?_ : Sd X 201 [(0, 20), (1, 0), (2, 0), (3, 0)] [0, 20] _)
              refine sd_inv0 (τ := []) (τr := [0]) (ci := 10) (q := (RX10, TX10, 45)) hC WG (M_X10_good _) rfl rfl rfl rfl  rfl rfl wl_7_171 wl_7_173 wp_105 wl_1_10 wl_7_174 hd_X10_good (by rw [e3]; decide) (by decide) dX10_load_201 (?_ : Sd X 204 [(0, 20), (1, 0), (2, 0), (3, 0)] [0] _)
              exact sd_ireturn hC hT dX10_load_204
            | j + 7, hj => exact absurd hj (by simp)
          · refine sd_aload_n hC 20 dX10_load_205 rfl (by decide) (by decide) (?_ : Sd X 206 [(0, 20), (1, 0), (2, 0), (3, 0)] [20] _)
            refine sd_aload_n hC 20 dX10_load_206 rfl (by decide) (by decide) (?_ : Sd X 207 [(0, 20), (1, 0), (2, 0), (3, 0)] [20, 20] _)
            refine sd_get hC (ci := 10) (j := 32) (C := RX10) (T := TX10) (N := 45) rfl rfl (by decide) in_X10 wl_5_196 dX10_load_207 (?_ : Sd X 210 [(0, 20), (1, 0), (2, 0), (3, 0)] [100, 20] _)
            refine sd_iload_n hC dX10_load_210 rfl (by decide) (?_ : Sd X 211 [(0, 20), (1, 0), (2, 0), (3, 0)] [0, 100, 20] _)
            refine sd_bipush hC dX10_load_211 (by decide) (?_ : Sd X 213 [(0, 20), (1, 0), (2, 0), (3, 0)] [0, 0, 100, 20] _)
            refine sd_iadd hC dX10_load_213 (?_ : Sd X 214 [(0, 20), (1, 0), (2, 0), (3, 0)] [0, 100, 20] _)
            refine sd_iaload hC dX10_load_214 (?_ : Sd X 215 [(0, 20), (1, 0), (2, 0), (3, 0)] [0, 20] _)
            refine sd_inv0 (τ := []) (τr := [0]) (ci := 10) (q := (RX10, TX10, 45)) hC WG (M_X10_good _) rfl rfl rfl rfl  rfl rfl wl_7_171 wl_7_173 wp_105 wl_1_10 wl_7_174 hd_X10_good (by rw [e3]; decide) (by decide) dX10_load_215 (?_ : Sd X 218 [(0, 20), (1, 0), (2, 0), (3, 0)] [0] _)
            exact sd_ireturn hC hT dX10_load_218
        · exact Sd.weak (by decide) (S_34)
theorem hd_X10_loads : yX10_loads.cls ≠ "java/lang/invoke/MethodHandle" ∧ yX10_loads.cls ≠ "java/lang/invoke/VarHandle" ∧ (parseMethodDescriptor yX10_loads.desc).map (fun d => d.parameters.length) = some 0 := by decide +kernel
set_option maxRecDepth 100000 in
set_option maxHeartbeats 4000000 in
theorem M_X10_loads (l : Launch) : Mt l yX10_loads (Cond.code yX10_loads cX10_loads 1 (some .int) :: WALL) { frames := 1, cells := 0, slots := 0, locals := 21 } [20] (some 0) T_X10_loads := by
  refine Mt.mk (B := E_X10_loads) (by decide +kernel) (by decide) (fun _ _ _ hh => hh) ?_
  intro X Q e1 e2 e3 hC hN hT
  subst e1
  have hC : CF X cX10_loads RX10 WALL := hC
  have S_28 : Sd X 28 [(0, 20)] [0] (B_X10_loads_28 Q) := by
    unfold B_X10_loads_28
    exact sd_ireturn hC hT dX10_loads_28
  refine (?_ : Sd X 0 [(0, 20)] [] (E_X10_loads Q))
  unfold E_X10_loads
  refine sd_aload_n hC 20 dX10_loads_0 rfl (by decide) (by decide) (?_ : Sd X 1 [(0, 20)] [20] _)
  refine sd_iconst hC dX10_loads_1 ⟨by decide, by decide⟩ (?_ : Sd X 2 [(0, 20)] [0, 20] _)
  refine sd_put hC (ci := 10) (j := 0) (C := RX10) (T := TX10) (N := 45) tyX10 tyX10_ok nmX10 rfl rfl (by decide) in_X10 rfl rfl wl_5_164 dX10_loads_2 (?_ : Sd X 5 [(0, 20)] [] _)
  refine sd_aload_n hC 20 dX10_loads_5 rfl (by decide) (by decide) (?_ : Sd X 6 [(0, 20)] [20] _)
  refine sd_get hC (ci := 10) (j := 3) (C := RX10) (T := TX10) (N := 45) rfl rfl (by decide) in_X10 wl_5_167 dX10_loads_6 (?_ : Sd X 9 [(0, 20)] [19] _)
  refine sd_ifnonnull (tgt := 20) hC (by decide) dX10_loads_9 rfl (?_ : Sd X 20 [(0, 20)] [] _) (?_ : Sd X 12 [(0, 20)] [] _)
  · refine sd_aload_n hC 20 dX10_loads_20 rfl (by decide) (by decide) (?_ : Sd X 21 [(0, 20)] [20] _)
    refine sd_aload_n hC 20 dX10_loads_21 rfl (by decide) (by decide) (?_ : Sd X 22 [(0, 20)] [20, 20] _)
    refine sd_get hC (ci := 10) (j := 38) (C := RX10) (T := TX10) (N := 45) rfl rfl (by decide) in_X10 wl_5_202 dX10_loads_22 (?_ : Sd X 25 [(0, 20)] [0, 20] _)
    refine sd_inv0 (τ := []) (τr := [0]) (ci := 10) (q := (RX10, TX10, 45)) hC WG (M_X10_good _) rfl rfl rfl rfl  rfl rfl wl_7_171 wl_7_173 wp_105 wl_1_10 wl_7_174 hd_X10_good (by rw [e3]; decide) (by decide) dX10_loads_25 (?_ : Sd X 28 [(0, 20)] [0] _)
    exact Sd.weak (by decide) (S_28)
  · refine sd_aload_n hC 20 dX10_loads_12 rfl (by decide) (by decide) (?_ : Sd X 13 [(0, 20)] [20] _)
    refine sd_iconst hC dX10_loads_13 ⟨by decide, by decide⟩ (?_ : Sd X 14 [(0, 20)] [0, 20] _)
    refine sd_inv0 (τ := []) (τr := [0]) (ci := 10) (q := (RX10, TX10, 45)) hC WG (M_X10_refused _) rfl rfl rfl rfl  rfl rfl wl_6_72 wl_6_74 wp_63 wl_1_10 wl_6_75 hd_X10_refused (by rw [e3]; decide) (by decide) dX10_loads_14 (?_ : Sd X 17 [(0, 20)] [0] _)
    refine sd_goto (tgt := 28) hC dX10_loads_17 rfl (?_ : Sd X 28 [(0, 20)] [0] _)
    exact Sd.weak (by decide) (S_28)
theorem wl_8_7 : Cond.methodLink RX10 462 yX10_bestLoads ∈ WALL := tb8 (List.mem_of_getElem? (i := 7) rfl) rfl
theorem wl_8_9 : Cond.instanceMethod yX10_bestLoads ∈ WALL := tb8 (List.mem_of_getElem? (i := 9) rfl) rfl
theorem wp_112 : Cond.selects RX10 yX10_bestLoads yX10_bestLoads ∈ WALL := tbS (List.mem_of_getElem? (i := 112) rfl)
theorem wl_8_10 : Cond.code yX10_bestLoads cX10_bestLoads 2 (some .int) ∈ WALL := tb8 (List.mem_of_getElem? (i := 10) rfl) rfl
theorem hd_X10_loadsOf : yX10_loadsOf.cls ≠ "java/lang/invoke/MethodHandle" ∧ yX10_loadsOf.cls ≠ "java/lang/invoke/VarHandle" ∧ (parseMethodDescriptor yX10_loadsOf.desc).map (fun d => d.parameters.length) = some 1 := by decide +kernel
set_option maxRecDepth 100000 in
set_option maxHeartbeats 4000000 in
theorem M_X10_loadsOf (l : Launch) : Mt l yX10_loadsOf (Cond.code yX10_loadsOf cX10_loadsOf 2 (some .int) :: WALL) { frames := 7, cells := 0, slots := 0, locals := 172 } [20, 0] (some 0) T_X10_loadsOf := by
  refine Mt.mk (B := E_X10_loadsOf) (by decide +kernel) (by decide) (fun _ _ _ hh => hh) ?_
  intro X Q e1 e2 e3 hC hN hT
  subst e1
  have hC : CF X cX10_loadsOf RX10 WALL := hC
  have S_45 : Sd X 45 [(0, 20), (1, 0)] [0] (B_X10_loadsOf_45 Q) := by
    unfold B_X10_loadsOf_45
    exact sd_ireturn hC hT dX10_loadsOf_45
  refine (?_ : Sd X 0 [(0, 20), (1, 0)] [] (E_X10_loadsOf Q))
  unfold E_X10_loadsOf
  refine sd_aload_n hC 20 dX10_loadsOf_0 rfl (by decide) (by decide) (?_ : Sd X 1 [(0, 20), (1, 0)] [20] _)
  refine sd_iconst hC dX10_loadsOf_1 ⟨by decide, by decide⟩ (?_ : Sd X 2 [(0, 20), (1, 0)] [0, 20] _)
  refine sd_put hC (ci := 10) (j := 0) (C := RX10) (T := TX10) (N := 45) tyX10 tyX10_ok nmX10 rfl rfl (by decide) in_X10 rfl rfl wl_5_164 dX10_loadsOf_2 (?_ : Sd X 5 [(0, 20), (1, 0)] [] _)
  refine sd_aload_n hC 20 dX10_loadsOf_5 rfl (by decide) (by decide) (?_ : Sd X 6 [(0, 20), (1, 0)] [20] _)
  refine sd_iload_n hC dX10_loadsOf_6 rfl (by decide) (?_ : Sd X 7 [(0, 20), (1, 0)] [0, 20] _)
  refine sd_inv0 (τ := []) (τr := [0]) (ci := 10) (q := (RX10, TX10, 45)) hC WG (M_X10_isOrder _) rfl rfl rfl rfl  rfl rfl wl_7_235 wl_7_237 wp_111 wl_1_10 wl_7_238 hd_X10_isOrder (by rw [e3]; decide) (by decide) dX10_loadsOf_7 (?_ : Sd X 10 [(0, 20), (1, 0)] [0] _)
  refine sd_if_ne (tgt := 19) hC dX10_loadsOf_10 rfl (?_ : Sd X 19 [(0, 20), (1, 0)] [] _) (?_ : Sd X 13 [(0, 20), (1, 0)] [] _)
  · refine sd_aload_n hC 20 dX10_loadsOf_19 rfl (by decide) (by decide) (?_ : Sd X 20 [(0, 20), (1, 0)] [20] _)
    refine sd_iload_n hC dX10_loadsOf_20 rfl (by decide) (?_ : Sd X 21 [(0, 20), (1, 0)] [0, 20] _)
    refine sd_inv0 (τ := []) (τr := [0]) (ci := 10) (q := (RX10, TX10, 45)) hC WG (M_X10_findsOrder _) rfl rfl rfl rfl  rfl rfl wl_7_91 wl_7_93 wp_87 wl_1_10 wl_7_94 hd_X10_findsOrder (by rw [e3]; decide) (by decide) dX10_loadsOf_21 (?_ : Sd X 24 [(0, 20), (1, 0)] [0] _)
    refine sd_if_eq (tgt := 39) hC dX10_loadsOf_24 rfl (?_ : Sd X 39 [(0, 20), (1, 0)] [] _) (?_ : Sd X 27 [(0, 20), (1, 0)] [] _)
    · refine sd_aload_n hC 20 dX10_loadsOf_39 rfl (by decide) (by decide) (?_ : Sd X 40 [(0, 20), (1, 0)] [20] _)
      refine sd_bipush hC dX10_loadsOf_40 (by decide) (?_ : Sd X 42 [(0, 20), (1, 0)] [0, 20] _)
      refine sd_inv0 (τ := []) (τr := [0]) (ci := 10) (q := (RX10, TX10, 45)) hC WG (M_X10_refused _) rfl rfl rfl rfl  rfl rfl wl_6_72 wl_6_74 wp_63 wl_1_10 wl_6_75 hd_X10_refused (by rw [e3]; decide) (by decide) dX10_loadsOf_42 (?_ : Sd X 45 [(0, 20), (1, 0)] [0] _)
      exact Sd.weak (by decide) (S_45)
    · refine sd_aload_n hC 20 dX10_loadsOf_27 rfl (by decide) (by decide) (?_ : Sd X 28 [(0, 20), (1, 0)] [20] _)
      refine sd_aload_n hC 20 dX10_loadsOf_28 rfl (by decide) (by decide) (?_ : Sd X 29 [(0, 20), (1, 0)] [20, 20] _)
      refine sd_iload_n hC dX10_loadsOf_29 rfl (by decide) (?_ : Sd X 30 [(0, 20), (1, 0)] [0, 20, 20] _)
      refine sd_inv0 (τ := [20]) (τr := [0]) (ci := 10) (q := (RX10, TX10, 45)) hC WG (M_X10_bestLoads _) rfl rfl rfl rfl  rfl rfl wl_8_7 wl_8_9 wp_112 wl_1_10 wl_8_10 hd_X10_bestLoads (by rw [e3]; decide) (by decide) dX10_loadsOf_30 (?_ : Sd X 33 [(0, 20), (1, 0)] [0, 20] _)
      refine sd_inv0 (τ := []) (τr := [0]) (ci := 10) (q := (RX10, TX10, 45)) hC WG (M_X10_good _) rfl rfl rfl rfl  rfl rfl wl_7_171 wl_7_173 wp_105 wl_1_10 wl_7_174 hd_X10_good (by rw [e3]; decide) (by decide) dX10_loadsOf_33 (?_ : Sd X 36 [(0, 20), (1, 0)] [0] _)
      refine sd_goto (tgt := 45) hC dX10_loadsOf_36 rfl (?_ : Sd X 45 [(0, 20), (1, 0)] [0] _)
      exact Sd.weak (by decide) (S_45)
  · refine sd_aload_n hC 20 dX10_loadsOf_13 rfl (by decide) (by decide) (?_ : Sd X 14 [(0, 20), (1, 0)] [20] _)
    refine sd_iconst hC dX10_loadsOf_14 ⟨by decide, by decide⟩ (?_ : Sd X 15 [(0, 20), (1, 0)] [0, 20] _)
    refine sd_inv0 (τ := []) (τr := [0]) (ci := 10) (q := (RX10, TX10, 45)) hC WG (M_X10_refused _) rfl rfl rfl rfl  rfl rfl wl_6_72 wl_6_74 wp_63 wl_1_10 wl_6_75 hd_X10_refused (by rw [e3]; decide) (by decide) dX10_loadsOf_15 (?_ : Sd X 18 [(0, 20), (1, 0)] [0] _)
    exact sd_ireturn hC hT dX10_loadsOf_18
theorem hd_X10_lowers : yX10_lowers.cls ≠ "java/lang/invoke/MethodHandle" ∧ yX10_lowers.cls ≠ "java/lang/invoke/VarHandle" ∧ (parseMethodDescriptor yX10_lowers.desc).map (fun d => d.parameters.length) = some 3 := by decide +kernel
set_option maxRecDepth 100000 in
set_option maxHeartbeats 4000000 in
theorem M_X10_lowers (l : Launch) : Mt l yX10_lowers (Cond.code yX10_lowers cX10_lowers 3 (some .boolean) :: WALL) { frames := 0, cells := 0, slots := 0, locals := 0 } [100, 0, 0] (some 0) T_X10_lowers := by
  refine Mt.mk (B := E_X10_lowers) (by decide +kernel) (by decide) (fun _ _ _ hh => hh) ?_
  intro X Q e1 e2 e3 hC hN hT
  subst e1
  have hC : CF X cX10_lowers RX10 WALL := hC
  refine (?_ : Sd X 0 [(0, 100), (1, 0), (2, 0)] [] (E_X10_lowers Q))
  unfold E_X10_lowers
  refine sd_iload_n hC dX10_lowers_0 rfl (by decide) (?_ : Sd X 1 [(0, 100), (1, 0), (2, 0)] [0] _)
  refine sd_aload_n hC 100 dX10_lowers_1 rfl (by decide) (by decide) (?_ : Sd X 2 [(0, 100), (1, 0), (2, 0)] [100, 0] _)
  refine sd_iload_n hC dX10_lowers_2 rfl (by decide) (?_ : Sd X 3 [(0, 100), (1, 0), (2, 0)] [0, 100, 0] _)
  refine sd_iaload hC dX10_lowers_3 (?_ : Sd X 4 [(0, 100), (1, 0), (2, 0)] [0, 0] _)
  refine sd_icmp_lt (tgt := 9) hC dX10_lowers_4 rfl (?_ : Sd X 9 [(0, 100), (1, 0), (2, 0)] [] _) (?_ : Sd X 7 [(0, 100), (1, 0), (2, 0)] [] _)
  · refine sd_aload_n hC 100 dX10_lowers_9 rfl (by decide) (by decide) (?_ : Sd X 10 [(0, 100), (1, 0), (2, 0)] [100] _)
    refine sd_iload_n hC dX10_lowers_10 rfl (by decide) (?_ : Sd X 11 [(0, 100), (1, 0), (2, 0)] [0, 100] _)
    refine sd_iload_n hC dX10_lowers_11 rfl (by decide) (?_ : Sd X 12 [(0, 100), (1, 0), (2, 0)] [0, 0, 100] _)
    refine sd_iastore hC dX10_lowers_12 (?_ : Sd X 13 [(0, 100), (1, 0), (2, 0)] [] _)
    refine sd_iconst hC dX10_lowers_13 ⟨by decide, by decide⟩ (?_ : Sd X 14 [(0, 100), (1, 0), (2, 0)] [0] _)
    exact sd_zreturn hC hT dX10_lowers_14
  · refine sd_iconst hC dX10_lowers_7 ⟨by decide, by decide⟩ (?_ : Sd X 8 [(0, 100), (1, 0), (2, 0)] [0] _)
    exact sd_zreturn hC hT dX10_lowers_8
theorem hd_X10_mark : yX10_mark.cls ≠ "java/lang/invoke/MethodHandle" ∧ yX10_mark.cls ≠ "java/lang/invoke/VarHandle" ∧ (parseMethodDescriptor yX10_mark.desc).map (fun d => d.parameters.length) = some 0 := by decide +kernel
set_option maxRecDepth 100000 in
set_option maxHeartbeats 4000000 in
theorem M_X10_mark (l : Launch) : Mt l yX10_mark (Cond.code yX10_mark cX10_mark 2 (some .int) :: WALL) { frames := 1, cells := 0, slots := 0, locals := 21 } [20] (some 0) T_X10_mark := by
  refine Mt.mk (B := E_X10_mark) (by decide +kernel) (by decide) (fun _ _ _ hh => hh) ?_
  intro X Q e1 e2 e3 hC hN hT
  subst e1
  have hC : CF X cX10_mark RX10 WALL := hC
  have S_34 : Sd X 34 [(0, 20), (1, 0)] [] (L_X10_mark_34 Q) := by
    unfold L_X10_mark_34
    refine Sd.loop (fun k34 h34 => ?_)
    refine sd_iload_n hC dX10_mark_34 rfl (by decide) (?_ : Sd X 35 [(0, 20), (1, 0)] [0] _)
    refine sd_sipush hC dX10_mark_35 (by decide) (?_ : Sd X 38 [(0, 20), (1, 0)] [0, 0] _)
    refine sd_icmp_ge (tgt := 68) hC dX10_mark_38 rfl (?_ : Sd X 68 [(0, 20), (1, 0)] [] _) (?_ : Sd X 41 [(0, 20), (1, 0)] [] _)
    · refine sd_aload_n hC 20 dX10_mark_68 rfl (by decide) (by decide) (?_ : Sd X 69 [(0, 20), (1, 0)] [20] _)
      refine sd_dup hC (by decide) dX10_mark_69 (?_ : Sd X 70 [(0, 20), (1, 0)] [20, 20] _)
      refine sd_get hC (ci := 10) (j := 39) (C := RX10) (T := TX10) (N := 45) rfl rfl (by decide) in_X10 wl_5_203 dX10_mark_70 (?_ : Sd X 73 [(0, 20), (1, 0)] [0, 20] _)
      refine sd_iconst hC dX10_mark_73 ⟨by decide, by decide⟩ (?_ : Sd X 74 [(0, 20), (1, 0)] [0, 0, 20] _)
      refine sd_iadd hC dX10_mark_74 (?_ : Sd X 75 [(0, 20), (1, 0)] [0, 20] _)
      refine sd_put hC (ci := 10) (j := 39) (C := RX10) (T := TX10) (N := 45) tyX10 tyX10_ok nmX10 rfl rfl (by decide) in_X10 rfl rfl wl_5_203 dX10_mark_75 (?_ : Sd X 78 [(0, 20), (1, 0)] [] _)
      refine sd_aload_n hC 20 dX10_mark_78 rfl (by decide) (by decide) (?_ : Sd X 79 [(0, 20), (1, 0)] [20] _)
      refine sd_aload_n hC 20 dX10_mark_79 rfl (by decide) (by decide) (?_ : Sd X 80 [(0, 20), (1, 0)] [20, 20] _)
      refine sd_get hC (ci := 10) (j := 39) (C := RX10) (T := TX10) (N := 45) rfl rfl (by decide) in_X10 wl_5_203 dX10_mark_80 (?_ : Sd X 83 [(0, 20), (1, 0)] [0, 20] _)
      refine sd_iconst hC dX10_mark_83 ⟨by decide, by decide⟩ (?_ : Sd X 84 [(0, 20), (1, 0)] [0, 0, 20] _)
      refine sd_isub hC dX10_mark_84 (?_ : Sd X 85 [(0, 20), (1, 0)] [0, 20] _)
      refine sd_inv0 (τ := []) (τr := [0]) (ci := 10) (q := (RX10, TX10, 45)) hC WG (M_X10_good _) rfl rfl rfl rfl  rfl rfl wl_7_171 wl_7_173 wp_105 wl_1_10 wl_7_174 hd_X10_good (by rw [e3]; decide) (by decide) dX10_mark_85 (?_ : Sd X 88 [(0, 20), (1, 0)] [0] _)
      exact sd_ireturn hC hT dX10_mark_88
    · refine sd_aload_n hC 20 dX10_mark_41 rfl (by decide) (by decide) (?_ : Sd X 42 [(0, 20), (1, 0)] [20] _)
      refine sd_get hC (ci := 10) (j := 33) (C := RX10) (T := TX10) (N := 45) rfl rfl (by decide) in_X10 wl_5_197 dX10_mark_42 (?_ : Sd X 45 [(0, 20), (1, 0)] [100] _)
      refine sd_sipush hC dX10_mark_45 (by decide) (?_ : Sd X 48 [(0, 20), (1, 0)] [0, 100] _)
      refine sd_aload_n hC 20 dX10_mark_48 rfl (by decide) (by decide) (?_ : Sd X 49 [(0, 20), (1, 0)] [20, 0, 100] _)
      refine sd_get hC (ci := 10) (j := 39) (C := RX10) (T := TX10) (N := 45) rfl rfl (by decide) in_X10 wl_5_203 dX10_mark_49 (?_ : Sd X 52 [(0, 20), (1, 0)] [0, 0, 100] _)
      refine sd_imul hC dX10_mark_52 (?_ : Sd X 53 [(0, 20), (1, 0)] [0, 100] _)
      refine sd_iload_n hC dX10_mark_53 rfl (by decide) (?_ : Sd X 54 [(0, 20), (1, 0)] [0, 0, 100] _)
      refine sd_iadd hC dX10_mark_54 (?_ : Sd X 55 [(0, 20), (1, 0)] [0, 100] _)
      refine sd_aload_n hC 20 dX10_mark_55 rfl (by decide) (by decide) (?_ : Sd X 56 [(0, 20), (1, 0)] [20, 0, 100] _)
      refine sd_get hC (ci := 10) (j := 32) (C := RX10) (T := TX10) (N := 45) rfl rfl (by decide) in_X10 wl_5_196 dX10_mark_56 (?_ : Sd X 59 [(0, 20), (1, 0)] [100, 0, 100] _)
      refine sd_iload_n hC dX10_mark_59 rfl (by decide) (?_ : Sd X 60 [(0, 20), (1, 0)] [0, 100, 0, 100] _)
      refine sd_iaload hC dX10_mark_60 (?_ : Sd X 61 [(0, 20), (1, 0)] [0, 0, 100] _)
      refine sd_iastore hC dX10_mark_61 (?_ : Sd X 62 [(0, 20), (1, 0)] [] _)
      refine sd_iinc (Γ' := [(0, 20), (1, 0)]) hC dX10_mark_62 (by decide) (by rw [e2]; decide) (by decide) (?_ : Sd X 65 [(0, 20), (1, 0)] [] _)
      refine sd_goto (tgt := 34) hC dX10_mark_65 rfl (?_ : Sd X 34 [(0, 20), (1, 0)] [] _)
      exact Sd.weak (by decide) h34
  refine (?_ : Sd X 0 [(0, 20)] [] (E_X10_mark Q))
  unfold E_X10_mark
  refine sd_aload_n hC 20 dX10_mark_0 rfl (by decide) (by decide) (?_ : Sd X 1 [(0, 20)] [20] _)
  refine sd_iconst hC dX10_mark_1 ⟨by decide, by decide⟩ (?_ : Sd X 2 [(0, 20)] [0, 20] _)
  refine sd_put hC (ci := 10) (j := 0) (C := RX10) (T := TX10) (N := 45) tyX10 tyX10_ok nmX10 rfl rfl (by decide) in_X10 rfl rfl wl_5_164 dX10_mark_2 (?_ : Sd X 5 [(0, 20)] [] _)
  refine sd_aload_n hC 20 dX10_mark_5 rfl (by decide) (by decide) (?_ : Sd X 6 [(0, 20)] [20] _)
  refine sd_get hC (ci := 10) (j := 3) (C := RX10) (T := TX10) (N := 45) rfl rfl (by decide) in_X10 wl_5_167 dX10_mark_6 (?_ : Sd X 9 [(0, 20)] [19] _)
  refine sd_ifnonnull (tgt := 18) hC (by decide) dX10_mark_9 rfl (?_ : Sd X 18 [(0, 20)] [] _) (?_ : Sd X 12 [(0, 20)] [] _)
  · refine sd_aload_n hC 20 dX10_mark_18 rfl (by decide) (by decide) (?_ : Sd X 19 [(0, 20)] [20] _)
    refine sd_get hC (ci := 10) (j := 39) (C := RX10) (T := TX10) (N := 45) rfl rfl (by decide) in_X10 wl_5_203 dX10_mark_19 (?_ : Sd X 22 [(0, 20)] [0] _)
    refine sd_iconst hC dX10_mark_22 ⟨by decide, by decide⟩ (?_ : Sd X 23 [(0, 20)] [0, 0] _)
    refine sd_icmp_ne (tgt := 32) hC dX10_mark_23 rfl (?_ : Sd X 32 [(0, 20)] [] _) (?_ : Sd X 26 [(0, 20)] [] _)
    · refine sd_iconst hC dX10_mark_32 ⟨by decide, by decide⟩ (?_ : Sd X 33 [(0, 20)] [0] _)
      refine sd_istore_n (Γ' := [(0, 20), (1, 0)]) hC dX10_mark_33 rfl (by rw [e2]; decide) (by decide) (?_ : Sd X 34 [(0, 20), (1, 0)] [] _)
      exact Sd.weak (by decide) (S_34)
    · refine sd_aload_n hC 20 dX10_mark_26 rfl (by decide) (by decide) (?_ : Sd X 27 [(0, 20)] [20] _)
      refine sd_iconst hC dX10_mark_27 ⟨by decide, by decide⟩ (?_ : Sd X 28 [(0, 20)] [0, 20] _)
      refine sd_inv0 (τ := []) (τr := [0]) (ci := 10) (q := (RX10, TX10, 45)) hC WG (M_X10_refused _) rfl rfl rfl rfl  rfl rfl wl_6_72 wl_6_74 wp_63 wl_1_10 wl_6_75 hd_X10_refused (by rw [e3]; decide) (by decide) dX10_mark_28 (?_ : Sd X 31 [(0, 20)] [0] _)
      exact sd_ireturn hC hT dX10_mark_31
  · refine sd_aload_n hC 20 dX10_mark_12 rfl (by decide) (by decide) (?_ : Sd X 13 [(0, 20)] [20] _)
    refine sd_iconst hC dX10_mark_13 ⟨by decide, by decide⟩ (?_ : Sd X 14 [(0, 20)] [0, 20] _)
    refine sd_inv0 (τ := []) (τr := [0]) (ci := 10) (q := (RX10, TX10, 45)) hC WG (M_X10_refused _) rfl rfl rfl rfl  rfl rfl wl_6_72 wl_6_74 wp_63 wl_1_10 wl_6_75 hd_X10_refused (by rw [e3]; decide) (by decide) dX10_mark_14 (?_ : Sd X 17 [(0, 20)] [0] _)
    exact sd_ireturn hC hT dX10_mark_17
theorem hd_X10_moves : yX10_moves.cls ≠ "java/lang/invoke/MethodHandle" ∧ yX10_moves.cls ≠ "java/lang/invoke/VarHandle" ∧ (parseMethodDescriptor yX10_moves.desc).map (fun d => d.parameters.length) = some 1 := by decide +kernel
set_option maxRecDepth 100000 in
set_option maxHeartbeats 4000000 in
theorem M_X10_moves (l : Launch) : Mt l yX10_moves (Cond.code yX10_moves cX10_moves 4 none :: WALL) { frames := 2, cells := 0, slots := 0, locals := 43 } [20, 0] none T_X10_moves := by
  refine Mt.mk (B := E_X10_moves) (by decide +kernel) (by decide) (fun _ _ _ hh => hh) ?_
  intro X Q e1 e2 e3 hC hN hT
  subst e1
  have hC : CF X cX10_moves RX10 WALL := hC
  have S_194 : Sd X 194 [(0, 20), (1, 0), (2, 0), (3, 0)] [] (B_X10_moves_194 Q) := by
    unfold B_X10_moves_194
    exact sd_return hC hT dX10_moves_194
  have S_142 : Sd X 142 [(0, 20), (1, 0), (2, 0), (3, 0)] [0, 0, 100] (B_X10_moves_142 Q) := by
    unfold B_X10_moves_142
    refine sd_iastore hC dX10_moves_142 (?_ : Sd X 143 [(0, 20), (1, 0), (2, 0), (3, 0)] [] _)
    refine sd_aload_n hC 20 dX10_moves_143 rfl (by decide) (by decide) (?_ : Sd X 144 [(0, 20), (1, 0), (2, 0), (3, 0)] [20] _)
    refine sd_get hC (ci := 10) (j := 32) (C := RX10) (T := TX10) (N := 45) rfl rfl (by decide) in_X10 wl_5_196 dX10_moves_144 (?_ : Sd X 147 [(0, 20), (1, 0), (2, 0), (3, 0)] [100] _)
    refine sd_iload_n hC dX10_moves_147 rfl (by decide) (?_ : Sd X 148 [(0, 20), (1, 0), (2, 0), (3, 0)] [0, 100] _)
    refine sd_bipush hC dX10_moves_148 (by decide) (?_ : Sd X 150 [(0, 20), (1, 0), (2, 0), (3, 0)] [0, 0, 100] _)
    refine sd_iadd hC dX10_moves_150 (?_ : Sd X 151 [(0, 20), (1, 0), (2, 0), (3, 0)] [0, 100] _)
    refine sd_dup2 hC (by decide) (by decide) dX10_moves_151 (?_ : Sd X 152 [(0, 20), (1, 0), (2, 0), (3, 0)] [0, 100, 0, 100] _)
    refine sd_iaload hC dX10_moves_152 (?_ : Sd X 153 [(0, 20), (1, 0), (2, 0), (3, 0)] [0, 0, 100] _)
    refine sd_iconst hC dX10_moves_153 ⟨by decide, by decide⟩ (?_ : Sd X 154 [(0, 20), (1, 0), (2, 0), (3, 0)] [0, 0, 0, 100] _)
    refine sd_iadd hC dX10_moves_154 (?_ : Sd X 155 [(0, 20), (1, 0), (2, 0), (3, 0)] [0, 0, 100] _)
    refine sd_iastore hC dX10_moves_155 (?_ : Sd X 156 [(0, 20), (1, 0), (2, 0), (3, 0)] [] _)
    refine sd_aload_n hC 20 dX10_moves_156 rfl (by decide) (by decide) (?_ : Sd X 157 [(0, 20), (1, 0), (2, 0), (3, 0)] [20] _)
    refine sd_get hC (ci := 10) (j := 32) (C := RX10) (T := TX10) (N := 45) rfl rfl (by decide) in_X10 wl_5_196 dX10_moves_157 (?_ : Sd X 160 [(0, 20), (1, 0), (2, 0), (3, 0)] [100] _)
    refine sd_iload_n hC dX10_moves_160 rfl (by decide) (?_ : Sd X 161 [(0, 20), (1, 0), (2, 0), (3, 0)] [0, 100] _)
    refine sd_iconst hC dX10_moves_161 ⟨by decide, by decide⟩ (?_ : Sd X 162 [(0, 20), (1, 0), (2, 0), (3, 0)] [0, 0, 100] _)
    refine sd_iadd hC dX10_moves_162 (?_ : Sd X 163 [(0, 20), (1, 0), (2, 0), (3, 0)] [0, 100] _)
    refine sd_iconst hC dX10_moves_163 ⟨by decide, by decide⟩ (?_ : Sd X 164 [(0, 20), (1, 0), (2, 0), (3, 0)] [0, 0, 100] _)
    refine sd_iastore hC dX10_moves_164 (?_ : Sd X 165 [(0, 20), (1, 0), (2, 0), (3, 0)] [] _)
    refine sd_aload_n hC 20 dX10_moves_165 rfl (by decide) (by decide) (?_ : Sd X 166 [(0, 20), (1, 0), (2, 0), (3, 0)] [20] _)
    refine sd_iload_n hC dX10_moves_166 rfl (by decide) (?_ : Sd X 167 [(0, 20), (1, 0), (2, 0), (3, 0)] [0, 20] _)
    refine sd_inv0 (τ := []) (τr := [0]) (ci := 10) (q := (RX10, TX10, 45)) hC WG (M_X10_isAtEnd _) rfl rfl rfl rfl  rfl rfl wl_8_39 wl_8_41 wp_117 wl_1_10 wl_8_42 hd_X10_isAtEnd (by rw [e3]; decide) (by decide) dX10_moves_167 (?_ : Sd X 170 [(0, 20), (1, 0), (2, 0), (3, 0)] [0] _)
    refine sd_if_eq (tgt := 194) hC dX10_moves_170 rfl (?_ : Sd X 194 [(0, 20), (1, 0), (2, 0), (3, 0)] [] _) (?_ : Sd X 173 [(0, 20), (1, 0), (2, 0), (3, 0)] [] _)
    · exact Sd.weak (by decide) (S_194)
    · refine sd_aload_n hC 20 dX10_moves_173 rfl (by decide) (by decide) (?_ : Sd X 174 [(0, 20), (1, 0), (2, 0), (3, 0)] [20] _)
      refine sd_get hC (ci := 10) (j := 32) (C := RX10) (T := TX10) (N := 45) rfl rfl (by decide) in_X10 wl_5_196 dX10_moves_174 (?_ : Sd X 177 [(0, 20), (1, 0), (2, 0), (3, 0)] [100] _)
      refine sd_iload_n hC dX10_moves_177 rfl (by decide) (?_ : Sd X 178 [(0, 20), (1, 0), (2, 0), (3, 0)] [0, 100] _)
      refine sd_iconst hC dX10_moves_178 ⟨by decide, by decide⟩ (?_ : Sd X 179 [(0, 20), (1, 0), (2, 0), (3, 0)] [0, 0, 100] _)
      refine sd_iadd hC dX10_moves_179 (?_ : Sd X 180 [(0, 20), (1, 0), (2, 0), (3, 0)] [0, 100] _)
      refine sd_iaload hC dX10_moves_180 (?_ : Sd X 181 [(0, 20), (1, 0), (2, 0), (3, 0)] [0] _)
      refine sd_aload_n hC 20 dX10_moves_181 rfl (by decide) (by decide) (?_ : Sd X 182 [(0, 20), (1, 0), (2, 0), (3, 0)] [20, 0] _)
      refine sd_iload_n hC dX10_moves_182 rfl (by decide) (?_ : Sd X 183 [(0, 20), (1, 0), (2, 0), (3, 0)] [0, 20, 0] _)
      refine sd_inv0 (τ := [0]) (τr := [0]) (ci := 10) (q := (RX10, TX10, 45)) hC WG (M_X10_placeNext _) rfl rfl rfl rfl  rfl rfl wl_8_35 wl_8_37 wp_116 wl_1_10 wl_8_38 hd_X10_placeNext (by rw [e3]; decide) (by decide) dX10_moves_183 (?_ : Sd X 186 [(0, 20), (1, 0), (2, 0), (3, 0)] [0, 0] _)
      refine sd_icmp_ne (tgt := 194) hC dX10_moves_186 rfl (?_ : Sd X 194 [(0, 20), (1, 0), (2, 0), (3, 0)] [] _) (?_ : Sd X 189 [(0, 20), (1, 0), (2, 0), (3, 0)] [] _)
      · exact Sd.weak (by decide) (S_194)
      · refine sd_aload_n hC 20 dX10_moves_189 rfl (by decide) (by decide) (?_ : Sd X 190 [(0, 20), (1, 0), (2, 0), (3, 0)] [20] _)
        refine sd_iload_n hC dX10_moves_190 rfl (by decide) (?_ : Sd X 191 [(0, 20), (1, 0), (2, 0), (3, 0)] [0, 20] _)
        refine sd_inv0v (τ := []) (τr := [0]) (ci := 10) (q := (RX10, TX10, 45)) hC WG (M_X10_comes _) rfl rfl rfl rfl  rfl rfl wl_8_47 wl_8_49 wp_119 wl_1_10 wl_8_50 hd_X10_comes (by rw [e3]; decide) (by decide) dX10_moves_191 (?_ : Sd X 194 [(0, 20), (1, 0), (2, 0), (3, 0)] [] _)
        exact Sd.weak (by decide) (S_194)
  have S_30 : Sd X 30 [(0, 20), (1, 0), (2, 0)] [] (B_X10_moves_30 Q) := by
    unfold B_X10_moves_30
    refine sd_aload_n hC 20 dX10_moves_30 rfl (by decide) (by decide) (?_ : Sd X 31 [(0, 20), (1, 0), (2, 0)] [20] _)
    refine sd_get hC (ci := 10) (j := 32) (C := RX10) (T := TX10) (N := 45) rfl rfl (by decide) in_X10 wl_5_196 dX10_moves_31 (?_ : Sd X 34 [(0, 20), (1, 0), (2, 0)] [100] _)
    refine sd_iload_n hC dX10_moves_34 rfl (by decide) (?_ : Sd X 35 [(0, 20), (1, 0), (2, 0)] [0, 100] _)
    refine sd_iconst hC dX10_moves_35 ⟨by decide, by decide⟩ (?_ : Sd X 36 [(0, 20), (1, 0), (2, 0)] [0, 0, 100] _)
    refine sd_iadd hC dX10_moves_36 (?_ : Sd X 37 [(0, 20), (1, 0), (2, 0)] [0, 100] _)
    refine sd_dup2 hC (by decide) (by decide) dX10_moves_37 (?_ : Sd X 38 [(0, 20), (1, 0), (2, 0)] [0, 100, 0, 100] _)
    refine sd_iaload hC dX10_moves_38 (?_ : Sd X 39 [(0, 20), (1, 0), (2, 0)] [0, 0, 100] _)
    refine sd_iconst hC dX10_moves_39 ⟨by decide, by decide⟩ (?_ : Sd X 40 [(0, 20), (1, 0), (2, 0)] [0, 0, 0, 100] _)
    refine sd_isub hC dX10_moves_40 (?_ : Sd X 41 [(0, 20), (1, 0), (2, 0)] [0, 0, 100] _)
    refine sd_iastore hC dX10_moves_41 (?_ : Sd X 42 [(0, 20), (1, 0), (2, 0)] [] _)
    refine sd_aload_n hC 20 dX10_moves_42 rfl (by decide) (by decide) (?_ : Sd X 43 [(0, 20), (1, 0), (2, 0)] [20] _)
    refine sd_get hC (ci := 10) (j := 32) (C := RX10) (T := TX10) (N := 45) rfl rfl (by decide) in_X10 wl_5_196 dX10_moves_43 (?_ : Sd X 46 [(0, 20), (1, 0), (2, 0)] [100] _)
    refine sd_iload_n hC dX10_moves_46 rfl (by decide) (?_ : Sd X 47 [(0, 20), (1, 0), (2, 0)] [0, 100] _)
    refine sd_iconst hC dX10_moves_47 ⟨by decide, by decide⟩ (?_ : Sd X 48 [(0, 20), (1, 0), (2, 0)] [0, 0, 100] _)
    refine sd_iadd hC dX10_moves_48 (?_ : Sd X 49 [(0, 20), (1, 0), (2, 0)] [0, 100] _)
    refine sd_iaload hC dX10_moves_49 (?_ : Sd X 50 [(0, 20), (1, 0), (2, 0)] [0] _)
    refine sd_if_le (tgt := 54) hC dX10_moves_50 rfl (?_ : Sd X 54 [(0, 20), (1, 0), (2, 0)] [] _) (?_ : Sd X 53 [(0, 20), (1, 0), (2, 0)] [] _)
    · refine sd_aload_n hC 20 dX10_moves_54 rfl (by decide) (by decide) (?_ : Sd X 55 [(0, 20), (1, 0), (2, 0)] [20] _)
      refine sd_get hC (ci := 10) (j := 32) (C := RX10) (T := TX10) (N := 45) rfl rfl (by decide) in_X10 wl_5_196 dX10_moves_55 (?_ : Sd X 58 [(0, 20), (1, 0), (2, 0)] [100] _)
      refine sd_iload_n hC dX10_moves_58 rfl (by decide) (?_ : Sd X 59 [(0, 20), (1, 0), (2, 0)] [0, 100] _)
      refine sd_iconst hC dX10_moves_59 ⟨by decide, by decide⟩ (?_ : Sd X 60 [(0, 20), (1, 0), (2, 0)] [0, 0, 100] _)
      refine sd_iadd hC dX10_moves_60 (?_ : Sd X 61 [(0, 20), (1, 0), (2, 0)] [0, 100] _)
      refine sd_iaload hC dX10_moves_61 (?_ : Sd X 62 [(0, 20), (1, 0), (2, 0)] [0] _)
      refine sd_iconst hC dX10_moves_62 ⟨by decide, by decide⟩ (?_ : Sd X 63 [(0, 20), (1, 0), (2, 0)] [0, 0] _)
      refine sd_icmp_ne (tgt := 95) hC dX10_moves_63 rfl (?_ : Sd X 95 [(0, 20), (1, 0), (2, 0)] [] _) (?_ : Sd X 66 [(0, 20), (1, 0), (2, 0)] [] _)
      · refine sd_aload_n hC 20 dX10_moves_95 rfl (by decide) (by decide) (?_ : Sd X 96 [(0, 20), (1, 0), (2, 0)] [20] _)
        refine sd_iload_n hC dX10_moves_96 rfl (by decide) (?_ : Sd X 97 [(0, 20), (1, 0), (2, 0)] [0, 20] _)
        refine sd_inv0 (τ := []) (τr := [0]) (ci := 10) (q := (RX10, TX10, 45)) hC WG (M_X10_gateNext _) rfl rfl rfl rfl  rfl rfl wl_8_43 wl_8_45 wp_118 wl_1_10 wl_8_46 hd_X10_gateNext (by rw [e3]; decide) (by decide) dX10_moves_97 (?_ : Sd X 100 [(0, 20), (1, 0), (2, 0)] [0] _)
        refine sd_istore_n (Γ' := [(0, 20), (1, 0), (2, 0), (3, 0)]) hC dX10_moves_100 rfl (by rw [e2]; decide) (by decide) (?_ : Sd X 101 [(0, 20), (1, 0), (2, 0), (3, 0)] [] _)
        refine sd_aload_n hC 20 dX10_moves_101 rfl (by decide) (by decide) (?_ : Sd X 102 [(0, 20), (1, 0), (2, 0), (3, 0)] [20] _)
        refine sd_get hC (ci := 10) (j := 32) (C := RX10) (T := TX10) (N := 45) rfl rfl (by decide) in_X10 wl_5_196 dX10_moves_102 (?_ : Sd X 105 [(0, 20), (1, 0), (2, 0), (3, 0)] [100] _)
        refine sd_iload_n hC dX10_moves_105 rfl (by decide) (?_ : Sd X 106 [(0, 20), (1, 0), (2, 0), (3, 0)] [0, 100] _)
        refine sd_iconst hC dX10_moves_106 ⟨by decide, by decide⟩ (?_ : Sd X 107 [(0, 20), (1, 0), (2, 0), (3, 0)] [0, 0, 100] _)
        refine sd_iadd hC dX10_moves_107 (?_ : Sd X 108 [(0, 20), (1, 0), (2, 0), (3, 0)] [0, 100] _)
        refine sd_aload_n hC 20 dX10_moves_108 rfl (by decide) (by decide) (?_ : Sd X 109 [(0, 20), (1, 0), (2, 0), (3, 0)] [20, 0, 100] _)
        refine sd_get hC (ci := 10) (j := 32) (C := RX10) (T := TX10) (N := 45) rfl rfl (by decide) in_X10 wl_5_196 dX10_moves_109 (?_ : Sd X 112 [(0, 20), (1, 0), (2, 0), (3, 0)] [100, 0, 100] _)
        refine sd_iload_n hC dX10_moves_112 rfl (by decide) (?_ : Sd X 113 [(0, 20), (1, 0), (2, 0), (3, 0)] [0, 100, 0, 100] _)
        refine sd_iconst hC dX10_moves_113 ⟨by decide, by decide⟩ (?_ : Sd X 114 [(0, 20), (1, 0), (2, 0), (3, 0)] [0, 0, 100, 0, 100] _)
        refine sd_iadd hC dX10_moves_114 (?_ : Sd X 115 [(0, 20), (1, 0), (2, 0), (3, 0)] [0, 100, 0, 100] _)
        refine sd_iaload hC dX10_moves_115 (?_ : Sd X 116 [(0, 20), (1, 0), (2, 0), (3, 0)] [0, 0, 100] _)
        refine sd_aload_n hC 20 dX10_moves_116 rfl (by decide) (by decide) (?_ : Sd X 117 [(0, 20), (1, 0), (2, 0), (3, 0)] [20, 0, 0, 100] _)
        refine sd_iload_n hC dX10_moves_117 rfl (by decide) (?_ : Sd X 118 [(0, 20), (1, 0), (2, 0), (3, 0)] [0, 20, 0, 0, 100] _)
        refine sd_iconst hC dX10_moves_118 ⟨by decide, by decide⟩ (?_ : Sd X 119 [(0, 20), (1, 0), (2, 0), (3, 0)] [0, 0, 20, 0, 0, 100] _)
        refine sd_inv0 (τ := [0, 0, 100]) (τr := [0, 0]) (ci := 10) (q := (RX10, TX10, 45)) hC WG (M_X10_of _) rfl rfl rfl rfl  rfl rfl wl_7_131 wl_7_133 wp_96 wl_1_10 wl_7_134 hd_X10_of (by rw [e3]; decide) (by decide) dX10_moves_119 (?_ : Sd X 122 [(0, 20), (1, 0), (2, 0), (3, 0)] [0, 0, 0, 100] _)
        refine sd_icmp_ne (tgt := 136) hC dX10_moves_122 rfl (?_ : Sd X 136 [(0, 20), (1, 0), (2, 0), (3, 0)] [0, 100] _) (?_ : Sd X 125 [(0, 20), (1, 0), (2, 0), (3, 0)] [0, 100] _)
        · refine sd_aload_n hC 20 dX10_moves_136 rfl (by decide) (by decide) (?_ : Sd X 137 [(0, 20), (1, 0), (2, 0), (3, 0)] [20, 0, 100] _)
          refine sd_iload_n hC dX10_moves_137 rfl (by decide) (?_ : Sd X 138 [(0, 20), (1, 0), (2, 0), (3, 0)] [0, 20, 0, 100] _)
          refine sd_iconst hC dX10_moves_138 ⟨by decide, by decide⟩ (?_ : Sd X 139 [(0, 20), (1, 0), (2, 0), (3, 0)] [0, 0, 20, 0, 100] _)
          refine sd_inv0 (τ := [0, 100]) (τr := [0, 0]) (ci := 10) (q := (RX10, TX10, 45)) hC WG (M_X10_of _) rfl rfl rfl rfl  rfl rfl wl_7_131 wl_7_133 wp_96 wl_1_10 wl_7_134 hd_X10_of (by rw [e3]; decide) (by decide) dX10_moves_139 (?_ : Sd X 142 [(0, 20), (1, 0), (2, 0), (3, 0)] [0, 0, 100] _)
          exact Sd.weak (by decide) (S_142)
        · refine sd_aload_n hC 20 dX10_moves_125 rfl (by decide) (by decide) (?_ : Sd X 126 [(0, 20), (1, 0), (2, 0), (3, 0)] [20, 0, 100] _)
          refine sd_iload_n hC dX10_moves_126 rfl (by decide) (?_ : Sd X 127 [(0, 20), (1, 0), (2, 0), (3, 0)] [0, 20, 0, 100] _)
          refine sd_iconst hC dX10_moves_127 ⟨by decide, by decide⟩ (?_ : Sd X 128 [(0, 20), (1, 0), (2, 0), (3, 0)] [0, 0, 20, 0, 100] _)
          refine sd_inv0 (τ := [0, 100]) (τr := [0, 0]) (ci := 10) (q := (RX10, TX10, 45)) hC WG (M_X10_of _) rfl rfl rfl rfl  rfl rfl wl_7_131 wl_7_133 wp_96 wl_1_10 wl_7_134 hd_X10_of (by rw [e3]; decide) (by decide) dX10_moves_128 (?_ : Sd X 131 [(0, 20), (1, 0), (2, 0), (3, 0)] [0, 0, 100] _)
          refine sd_iconst hC dX10_moves_131 ⟨by decide, by decide⟩ (?_ : Sd X 132 [(0, 20), (1, 0), (2, 0), (3, 0)] [0, 0, 0, 100] _)
          refine sd_iadd hC dX10_moves_132 (?_ : Sd X 133 [(0, 20), (1, 0), (2, 0), (3, 0)] [0, 0, 100] _)
          refine sd_goto (tgt := 142) hC dX10_moves_133 rfl (?_ : Sd X 142 [(0, 20), (1, 0), (2, 0), (3, 0)] [0, 0, 100] _)
          exact Sd.weak (by decide) (S_142)
      · refine sd_aload_n hC 20 dX10_moves_66 rfl (by decide) (by decide) (?_ : Sd X 67 [(0, 20), (1, 0), (2, 0)] [20] _)
        refine sd_get hC (ci := 10) (j := 32) (C := RX10) (T := TX10) (N := 45) rfl rfl (by decide) in_X10 wl_5_196 dX10_moves_67 (?_ : Sd X 70 [(0, 20), (1, 0), (2, 0)] [100] _)
        refine sd_iload_n hC dX10_moves_70 rfl (by decide) (?_ : Sd X 71 [(0, 20), (1, 0), (2, 0)] [0, 100] _)
        refine sd_iconst hC dX10_moves_71 ⟨by decide, by decide⟩ (?_ : Sd X 72 [(0, 20), (1, 0), (2, 0)] [0, 0, 100] _)
        refine sd_iadd hC dX10_moves_72 (?_ : Sd X 73 [(0, 20), (1, 0), (2, 0)] [0, 100] _)
        refine sd_bipush hC dX10_moves_73 (by decide) (?_ : Sd X 75 [(0, 20), (1, 0), (2, 0)] [0, 0, 100] _)
        refine sd_iastore hC dX10_moves_75 (?_ : Sd X 76 [(0, 20), (1, 0), (2, 0)] [] _)
        refine sd_aload_n hC 20 dX10_moves_76 rfl (by decide) (by decide) (?_ : Sd X 77 [(0, 20), (1, 0), (2, 0)] [20] _)
        refine sd_get hC (ci := 10) (j := 32) (C := RX10) (T := TX10) (N := 45) rfl rfl (by decide) in_X10 wl_5_196 dX10_moves_77 (?_ : Sd X 80 [(0, 20), (1, 0), (2, 0)] [100] _)
        refine sd_iload_n hC dX10_moves_80 rfl (by decide) (?_ : Sd X 81 [(0, 20), (1, 0), (2, 0)] [0, 100] _)
        refine sd_iconst hC dX10_moves_81 ⟨by decide, by decide⟩ (?_ : Sd X 82 [(0, 20), (1, 0), (2, 0)] [0, 0, 100] _)
        refine sd_iadd hC dX10_moves_82 (?_ : Sd X 83 [(0, 20), (1, 0), (2, 0)] [0, 100] _)
        refine sd_aload_n hC 20 dX10_moves_83 rfl (by decide) (by decide) (?_ : Sd X 84 [(0, 20), (1, 0), (2, 0)] [20, 0, 100] _)
        refine sd_iload_n hC dX10_moves_84 rfl (by decide) (?_ : Sd X 85 [(0, 20), (1, 0), (2, 0)] [0, 20, 0, 100] _)
        refine sd_inv0 (τ := [0, 100]) (τr := [0]) (ci := 10) (q := (RX10, TX10, 45)) hC WG (M_X10_placeNext _) rfl rfl rfl rfl  rfl rfl wl_8_35 wl_8_37 wp_116 wl_1_10 wl_8_38 hd_X10_placeNext (by rw [e3]; decide) (by decide) dX10_moves_85 (?_ : Sd X 88 [(0, 20), (1, 0), (2, 0)] [0, 0, 100] _)
        refine sd_iastore hC dX10_moves_88 (?_ : Sd X 89 [(0, 20), (1, 0), (2, 0)] [] _)
        refine sd_aload_n hC 20 dX10_moves_89 rfl (by decide) (by decide) (?_ : Sd X 90 [(0, 20), (1, 0), (2, 0)] [20] _)
        refine sd_iload_n hC dX10_moves_90 rfl (by decide) (?_ : Sd X 91 [(0, 20), (1, 0), (2, 0)] [0, 20] _)
        refine sd_inv0v (τ := []) (τr := [0]) (ci := 10) (q := (RX10, TX10, 45)) hC WG (M_X10_comes _) rfl rfl rfl rfl  rfl rfl wl_8_47 wl_8_49 wp_119 wl_1_10 wl_8_50 hd_X10_comes (by rw [e3]; decide) (by decide) dX10_moves_91 (?_ : Sd X 94 [(0, 20), (1, 0), (2, 0)] [] _)
        exact sd_return hC hT dX10_moves_94
    · exact sd_return hC hT dX10_moves_53
  refine (?_ : Sd X 0 [(0, 20), (1, 0)] [] (E_X10_moves Q))
  unfold E_X10_moves
  refine sd_bipush hC dX10_moves_0 (by decide) (?_ : Sd X 2 [(0, 20), (1, 0)] [0] _)
  refine sd_iload_n hC dX10_moves_2 rfl (by decide) (?_ : Sd X 3 [(0, 20), (1, 0)] [0, 0] _)
  refine sd_imul hC dX10_moves_3 (?_ : Sd X 4 [(0, 20), (1, 0)] [0] _)
  refine sd_istore_n (Γ' := [(0, 20), (1, 0), (2, 0)]) hC dX10_moves_4 rfl (by rw [e2]; decide) (by decide) (?_ : Sd X 5 [(0, 20), (1, 0), (2, 0)] [] _)
  refine sd_aload_n hC 20 dX10_moves_5 rfl (by decide) (by decide) (?_ : Sd X 6 [(0, 20), (1, 0), (2, 0)] [20] _)
  refine sd_get hC (ci := 10) (j := 32) (C := RX10) (T := TX10) (N := 45) rfl rfl (by decide) in_X10 wl_5_196 dX10_moves_6 (?_ : Sd X 9 [(0, 20), (1, 0), (2, 0)] [100] _)
  refine sd_iload_n hC dX10_moves_9 rfl (by decide) (?_ : Sd X 10 [(0, 20), (1, 0), (2, 0)] [0, 100] _)
  refine sd_iconst hC dX10_moves_10 ⟨by decide, by decide⟩ (?_ : Sd X 11 [(0, 20), (1, 0), (2, 0)] [0, 0, 100] _)
  refine sd_iadd hC dX10_moves_11 (?_ : Sd X 12 [(0, 20), (1, 0), (2, 0)] [0, 100] _)
  refine sd_iaload hC dX10_moves_12 (?_ : Sd X 13 [(0, 20), (1, 0), (2, 0)] [0] _)
  refine sd_iconst hC dX10_moves_13 ⟨by decide, by decide⟩ (?_ : Sd X 14 [(0, 20), (1, 0), (2, 0)] [0, 0] _)
  refine sd_icmp_eq (tgt := 30) hC dX10_moves_14 rfl (?_ : Sd X 30 [(0, 20), (1, 0), (2, 0)] [] _) (?_ : Sd X 17 [(0, 20), (1, 0), (2, 0)] [] _)
  · exact Sd.weak (by decide) (S_30)
  · refine sd_aload_n hC 20 dX10_moves_17 rfl (by decide) (by decide) (?_ : Sd X 18 [(0, 20), (1, 0), (2, 0)] [20] _)
    refine sd_get hC (ci := 10) (j := 32) (C := RX10) (T := TX10) (N := 45) rfl rfl (by decide) in_X10 wl_5_196 dX10_moves_18 (?_ : Sd X 21 [(0, 20), (1, 0), (2, 0)] [100] _)
    refine sd_iload_n hC dX10_moves_21 rfl (by decide) (?_ : Sd X 22 [(0, 20), (1, 0), (2, 0)] [0, 100] _)
    refine sd_iconst hC dX10_moves_22 ⟨by decide, by decide⟩ (?_ : Sd X 23 [(0, 20), (1, 0), (2, 0)] [0, 0, 100] _)
    refine sd_iadd hC dX10_moves_23 (?_ : Sd X 24 [(0, 20), (1, 0), (2, 0)] [0, 100] _)
    refine sd_iaload hC dX10_moves_24 (?_ : Sd X 25 [(0, 20), (1, 0), (2, 0)] [0] _)
    refine sd_iconst hC dX10_moves_25 ⟨by decide, by decide⟩ (?_ : Sd X 26 [(0, 20), (1, 0), (2, 0)] [0, 0] _)
    refine sd_icmp_eq (tgt := 30) hC dX10_moves_26 rfl (?_ : Sd X 30 [(0, 20), (1, 0), (2, 0)] [] _) (?_ : Sd X 29 [(0, 20), (1, 0), (2, 0)] [] _)
    · exact Sd.weak (by decide) (S_30)
    · exact sd_return hC hT dX10_moves_29
theorem hd_X10_needsSign : yX10_needsSign.cls ≠ "java/lang/invoke/MethodHandle" ∧ yX10_needsSign.cls ≠ "java/lang/invoke/VarHandle" ∧ (parseMethodDescriptor yX10_needsSign.desc).map (fun d => d.parameters.length) = some 1 := by decide +kernel
set_option maxRecDepth 100000 in
set_option maxHeartbeats 4000000 in
theorem M_X10_needsSign (l : Launch) : Mt l yX10_needsSign (Cond.code yX10_needsSign cX10_needsSign 2 none :: WALL) { frames := 2, cells := 0, slots := 0, locals := 43 } [20, 0] none T_X10_needsSign := by
  refine Mt.mk (B := E_X10_needsSign) (by decide +kernel) (by decide) (fun _ _ _ hh => hh) ?_
  intro X Q e1 e2 e3 hC hN hT
  subst e1
  have hC : CF X cX10_needsSign RX10 WALL := hC
  have S_21 : Sd X 21 [(0, 20), (1, 0)] [] (B_X10_needsSign_21 Q) := by
    unfold B_X10_needsSign_21
    refine sd_aload_n hC 20 dX10_needsSign_21 rfl (by decide) (by decide) (?_ : Sd X 22 [(0, 20), (1, 0)] [20] _)
    refine sd_inv0v (τ := []) (τr := []) (ci := 10) (q := (RX10, TX10, 45)) hC WG (M_X10_goesOn _) rfl rfl rfl rfl  rfl rfl wl_6_189 wl_6_191 wp_64 wl_1_10 wl_6_192 hd_X10_goesOn (by rw [e3]; decide) (by decide) dX10_needsSign_22 (?_ : Sd X 25 [(0, 20), (1, 0)] [] _)
    exact sd_return hC hT dX10_needsSign_25
  have S_16 : Sd X 16 [(0, 20), (1, 0)] [] (B_X10_needsSign_16 Q) := by
    unfold B_X10_needsSign_16
    refine sd_aload_n hC 20 dX10_needsSign_16 rfl (by decide) (by decide) (?_ : Sd X 17 [(0, 20), (1, 0)] [20] _)
    refine sd_iconst hC dX10_needsSign_17 ⟨by decide, by decide⟩ (?_ : Sd X 18 [(0, 20), (1, 0)] [0, 20] _)
    refine sd_inv0v (τ := []) (τr := [0]) (ci := 10) (q := (RX10, TX10, 45)) hC WG (M_X10_wrong _) rfl rfl rfl rfl  rfl rfl wl_6_226 wl_6_228 wp_70 wl_1_10 wl_6_229 hd_X10_wrong (by rw [e3]; decide) (by decide) dX10_needsSign_18 (?_ : Sd X 21 [(0, 20), (1, 0)] [] _)
    exact Sd.weak (by decide) (S_21)
  refine (?_ : Sd X 0 [(0, 20), (1, 0)] [] (E_X10_needsSign Q))
  unfold E_X10_needsSign
  refine sd_aload_n hC 20 dX10_needsSign_0 rfl (by decide) (by decide) (?_ : Sd X 1 [(0, 20), (1, 0)] [20] _)
  refine sd_get hC (ci := 10) (j := 9) (C := RX10) (T := TX10) (N := 45) rfl rfl (by decide) in_X10 wl_5_173 dX10_needsSign_1 (?_ : Sd X 4 [(0, 20), (1, 0)] [0] _)
  refine sd_iconst hC dX10_needsSign_4 ⟨by decide, by decide⟩ (?_ : Sd X 5 [(0, 20), (1, 0)] [0, 0] _)
  refine sd_icmp_ne (tgt := 16) hC dX10_needsSign_5 rfl (?_ : Sd X 16 [(0, 20), (1, 0)] [] _) (?_ : Sd X 8 [(0, 20), (1, 0)] [] _)
  · exact Sd.weak (by decide) (S_16)
  · refine sd_aload_n hC 20 dX10_needsSign_8 rfl (by decide) (by decide) (?_ : Sd X 9 [(0, 20), (1, 0)] [20] _)
    refine sd_get hC (ci := 10) (j := 11) (C := RX10) (T := TX10) (N := 45) rfl rfl (by decide) in_X10 wl_5_175 dX10_needsSign_9 (?_ : Sd X 12 [(0, 20), (1, 0)] [0] _)
    refine sd_iload_n hC dX10_needsSign_12 rfl (by decide) (?_ : Sd X 13 [(0, 20), (1, 0)] [0, 0] _)
    refine sd_icmp_eq (tgt := 21) hC dX10_needsSign_13 rfl (?_ : Sd X 21 [(0, 20), (1, 0)] [] _) (?_ : Sd X 16 [(0, 20), (1, 0)] [] _)
    · exact Sd.weak (by decide) (S_21)
    · exact Sd.weak (by decide) (S_16)
theorem hd_X10_opens : yX10_opens.cls ≠ "java/lang/invoke/MethodHandle" ∧ yX10_opens.cls ≠ "java/lang/invoke/VarHandle" ∧ (parseMethodDescriptor yX10_opens.desc).map (fun d => d.parameters.length) = some 1 := by decide +kernel
set_option maxRecDepth 100000 in
set_option maxHeartbeats 4000000 in
theorem M_X10_opens (l : Launch) : Mt l yX10_opens (Cond.code yX10_opens cX10_opens 4 none :: WALL) { frames := 2, cells := 0, slots := 0, locals := 43 } [20, 0] none T_X10_opens := by
  refine Mt.mk (B := E_X10_opens) (by decide +kernel) (by decide) (fun _ _ _ hh => hh) ?_
  intro X Q e1 e2 e3 hC hN hT
  subst e1
  have hC : CF X cX10_opens RX10 WALL := hC
  have S_81 : ∀ (k15 : tK), Sd X 15 [(0, 20), (1, 0), (2, 0), (3, 0)] [] k15 → Sd X 81 [(0, 20), (1, 0), (2, 0), (3, 0)] [] (B_X10_opens_81 Q k15) := by
    intro k15 h15
    unfold B_X10_opens_81
    refine sd_iinc (Γ' := [(0, 20), (1, 0), (2, 0), (3, 0)]) hC dX10_opens_81 (by decide) (by rw [e2]; decide) (by decide) (?_ : Sd X 84 [(0, 20), (1, 0), (2, 0), (3, 0)] [] _)
    refine sd_goto (tgt := 15) hC dX10_opens_84 rfl (?_ : Sd X 15 [(0, 20), (1, 0), (2, 0), (3, 0)] [] _)
    exact Sd.weak (by decide) h15
  have S_79 : ∀ (k15 : tK), Sd X 15 [(0, 20), (1, 0), (2, 0), (3, 0)] [] k15 → Sd X 79 [(0, 20), (1, 0), (2, 0), (3, 0)] [] (B_X10_opens_79 Q k15) := by
    intro k15 h15
    unfold B_X10_opens_79
    refine sd_iload_n hC dX10_opens_79 rfl (by decide) (?_ : Sd X 80 [(0, 20), (1, 0), (2, 0), (3, 0)] [0] _)
    refine sd_istore_n (Γ' := [(0, 20), (1, 0), (2, 0), (3, 0)]) hC dX10_opens_80 rfl (by rw [e2]; decide) (by decide) (?_ : Sd X 81 [(0, 20), (1, 0), (2, 0), (3, 0)] [] _)
    exact Sd.weak (by decide) (S_81 k15 h15)
  have S_15 : Sd X 15 [(0, 20), (1, 0), (2, 0), (3, 0)] [] (L_X10_opens_15 Q) := by
    unfold L_X10_opens_15
    refine Sd.loop (fun k15 h15 => ?_)
    refine sd_iload_n hC dX10_opens_15 rfl (by decide) (?_ : Sd X 16 [(0, 20), (1, 0), (2, 0), (3, 0)] [0] _)
    refine sd_aload_n hC 20 dX10_opens_16 rfl (by decide) (by decide) (?_ : Sd X 17 [(0, 20), (1, 0), (2, 0), (3, 0)] [20, 0] _)
    refine sd_get hC (ci := 10) (j := 38) (C := RX10) (T := TX10) (N := 45) rfl rfl (by decide) in_X10 wl_5_202 dX10_opens_17 (?_ : Sd X 20 [(0, 20), (1, 0), (2, 0), (3, 0)] [0, 0] _)
    refine sd_icmp_ge (tgt := 87) hC dX10_opens_20 rfl (?_ : Sd X 87 [(0, 20), (1, 0), (2, 0), (3, 0)] [] _) (?_ : Sd X 23 [(0, 20), (1, 0), (2, 0), (3, 0)] [] _)
    · refine sd_iload_n hC dX10_opens_87 rfl (by decide) (?_ : Sd X 88 [(0, 20), (1, 0), (2, 0), (3, 0)] [0] _)
      refine sd_iconst hC dX10_opens_88 ⟨by decide, by decide⟩ (?_ : Sd X 89 [(0, 20), (1, 0), (2, 0), (3, 0)] [0, 0] _)
      refine sd_icmp_ne (tgt := 93) hC dX10_opens_89 rfl (?_ : Sd X 93 [(0, 20), (1, 0), (2, 0), (3, 0)] [] _) (?_ : Sd X 92 [(0, 20), (1, 0), (2, 0), (3, 0)] [] _)
      · refine sd_aload_n hC 20 dX10_opens_93 rfl (by decide) (by decide) (?_ : Sd X 94 [(0, 20), (1, 0), (2, 0), (3, 0)] [20] _)
        refine sd_get hC (ci := 10) (j := 35) (C := RX10) (T := TX10) (N := 45) rfl rfl (by decide) in_X10 wl_5_199 dX10_opens_94 (?_ : Sd X 97 [(0, 20), (1, 0), (2, 0), (3, 0)] [100] _)
        refine sd_iload_n hC dX10_opens_97 rfl (by decide) (?_ : Sd X 98 [(0, 20), (1, 0), (2, 0), (3, 0)] [0, 100] _)
        refine sd_iaload hC dX10_opens_98 (?_ : Sd X 99 [(0, 20), (1, 0), (2, 0), (3, 0)] [0] _)
        refine sd_aload_n hC 20 dX10_opens_99 rfl (by decide) (by decide) (?_ : Sd X 100 [(0, 20), (1, 0), (2, 0), (3, 0)] [20, 0] _)
        refine sd_iload_n hC dX10_opens_100 rfl (by decide) (?_ : Sd X 101 [(0, 20), (1, 0), (2, 0), (3, 0)] [0, 20, 0] _)
        refine sd_iconst hC dX10_opens_101 ⟨by decide, by decide⟩ (?_ : Sd X 102 [(0, 20), (1, 0), (2, 0), (3, 0)] [0, 0, 20, 0] _)
        refine sd_inv0 (τ := [0]) (τr := [0, 0]) (ci := 10) (q := (RX10, TX10, 45)) hC WG (M_X10_of _) rfl rfl rfl rfl  rfl rfl wl_7_131 wl_7_133 wp_96 wl_1_10 wl_7_134 hd_X10_of (by rw [e3]; decide) (by decide) dX10_opens_102 (?_ : Sd X 105 [(0, 20), (1, 0), (2, 0), (3, 0)] [0, 0] _)
        refine sd_invs (τ := []) (τs := [0, 0]) hC false "" WG (M_X10_upwards _) rfl rfl rfl rfl wl_7_107 wl_7_108 wl_1_10 wl_7_109 hd_X10_upwards (by rw [e3]; decide) (by decide) dX10_opens_105 (?_ : Sd X 108 [(0, 20), (1, 0), (2, 0), (3, 0)] [0] _)
        refine sd_istore_n (Γ' := [(0, 20), (1, 0), (2, 0), (3, 0)]) hC dX10_opens_108 rfl (by rw [e2]; decide) (by decide) (?_ : Sd X 109 [(0, 20), (1, 0), (2, 0), (3, 0)] [] _)
        refine sd_aload_n hC 20 dX10_opens_109 rfl (by decide) (by decide) (?_ : Sd X 110 [(0, 20), (1, 0), (2, 0), (3, 0)] [20] _)
        refine sd_get hC (ci := 10) (j := 32) (C := RX10) (T := TX10) (N := 45) rfl rfl (by decide) in_X10 wl_5_196 dX10_opens_110 (?_ : Sd X 113 [(0, 20), (1, 0), (2, 0), (3, 0)] [100] _)
        refine sd_bipush hC dX10_opens_113 (by decide) (?_ : Sd X 115 [(0, 20), (1, 0), (2, 0), (3, 0)] [0, 100] _)
        refine sd_iload_n hC dX10_opens_115 rfl (by decide) (?_ : Sd X 116 [(0, 20), (1, 0), (2, 0), (3, 0)] [0, 0, 100] _)
        refine sd_imul hC dX10_opens_116 (?_ : Sd X 117 [(0, 20), (1, 0), (2, 0), (3, 0)] [0, 100] _)
        refine sd_iconst hC dX10_opens_117 ⟨by decide, by decide⟩ (?_ : Sd X 118 [(0, 20), (1, 0), (2, 0), (3, 0)] [0, 0, 100] _)
        refine sd_iadd hC dX10_opens_118 (?_ : Sd X 119 [(0, 20), (1, 0), (2, 0), (3, 0)] [0, 100] _)
        refine sd_iconst hC dX10_opens_119 ⟨by decide, by decide⟩ (?_ : Sd X 120 [(0, 20), (1, 0), (2, 0), (3, 0)] [0, 0, 100] _)
        refine sd_iastore hC dX10_opens_120 (?_ : Sd X 121 [(0, 20), (1, 0), (2, 0), (3, 0)] [] _)
        refine sd_aload_n hC 20 dX10_opens_121 rfl (by decide) (by decide) (?_ : Sd X 122 [(0, 20), (1, 0), (2, 0), (3, 0)] [20] _)
        refine sd_get hC (ci := 10) (j := 32) (C := RX10) (T := TX10) (N := 45) rfl rfl (by decide) in_X10 wl_5_196 dX10_opens_122 (?_ : Sd X 125 [(0, 20), (1, 0), (2, 0), (3, 0)] [100] _)
        refine sd_bipush hC dX10_opens_125 (by decide) (?_ : Sd X 127 [(0, 20), (1, 0), (2, 0), (3, 0)] [0, 100] _)
        refine sd_iload_n hC dX10_opens_127 rfl (by decide) (?_ : Sd X 128 [(0, 20), (1, 0), (2, 0), (3, 0)] [0, 0, 100] _)
        refine sd_imul hC dX10_opens_128 (?_ : Sd X 129 [(0, 20), (1, 0), (2, 0), (3, 0)] [0, 100] _)
        refine sd_iconst hC dX10_opens_129 ⟨by decide, by decide⟩ (?_ : Sd X 130 [(0, 20), (1, 0), (2, 0), (3, 0)] [0, 0, 100] _)
        refine sd_iadd hC dX10_opens_130 (?_ : Sd X 131 [(0, 20), (1, 0), (2, 0), (3, 0)] [0, 100] _)
        refine sd_iload_n hC dX10_opens_131 rfl (by decide) (?_ : Sd X 132 [(0, 20), (1, 0), (2, 0), (3, 0)] [0, 0, 100] _)
        refine sd_iastore hC dX10_opens_132 (?_ : Sd X 133 [(0, 20), (1, 0), (2, 0), (3, 0)] [] _)
        refine sd_aload_n hC 20 dX10_opens_133 rfl (by decide) (by decide) (?_ : Sd X 134 [(0, 20), (1, 0), (2, 0), (3, 0)] [20] _)
        refine sd_get hC (ci := 10) (j := 32) (C := RX10) (T := TX10) (N := 45) rfl rfl (by decide) in_X10 wl_5_196 dX10_opens_134 (?_ : Sd X 137 [(0, 20), (1, 0), (2, 0), (3, 0)] [100] _)
        refine sd_sipush hC dX10_opens_137 (by decide) (?_ : Sd X 140 [(0, 20), (1, 0), (2, 0), (3, 0)] [0, 100] _)
        refine sd_iload_n hC dX10_opens_140 rfl (by decide) (?_ : Sd X 141 [(0, 20), (1, 0), (2, 0), (3, 0)] [0, 0, 100] _)
        refine sd_iadd hC dX10_opens_141 (?_ : Sd X 142 [(0, 20), (1, 0), (2, 0), (3, 0)] [0, 100] _)
        refine sd_dup2 hC (by decide) (by decide) dX10_opens_142 (?_ : Sd X 143 [(0, 20), (1, 0), (2, 0), (3, 0)] [0, 100, 0, 100] _)
        refine sd_iaload hC dX10_opens_143 (?_ : Sd X 144 [(0, 20), (1, 0), (2, 0), (3, 0)] [0, 0, 100] _)
        refine sd_aload_n hC 20 dX10_opens_144 rfl (by decide) (by decide) (?_ : Sd X 145 [(0, 20), (1, 0), (2, 0), (3, 0)] [20, 0, 0, 100] _)
        refine sd_iload_n hC dX10_opens_145 rfl (by decide) (?_ : Sd X 146 [(0, 20), (1, 0), (2, 0), (3, 0)] [0, 20, 0, 0, 100] _)
        refine sd_iconst hC dX10_opens_146 ⟨by decide, by decide⟩ (?_ : Sd X 147 [(0, 20), (1, 0), (2, 0), (3, 0)] [0, 0, 20, 0, 0, 100] _)
        refine sd_inv0 (τ := [0, 0, 100]) (τr := [0, 0]) (ci := 10) (q := (RX10, TX10, 45)) hC WG (M_X10_of _) rfl rfl rfl rfl  rfl rfl wl_7_131 wl_7_133 wp_96 wl_1_10 wl_7_134 hd_X10_of (by rw [e3]; decide) (by decide) dX10_opens_147 (?_ : Sd X 150 [(0, 20), (1, 0), (2, 0), (3, 0)] [0, 0, 0, 100] _)
        refine sd_iadd hC dX10_opens_150 (?_ : Sd X 151 [(0, 20), (1, 0), (2, 0), (3, 0)] [0, 0, 100] _)
        refine sd_iastore hC dX10_opens_151 (?_ : Sd X 152 [(0, 20), (1, 0), (2, 0), (3, 0)] [] _)
        refine sd_aload_n hC 20 dX10_opens_152 rfl (by decide) (by decide) (?_ : Sd X 153 [(0, 20), (1, 0), (2, 0), (3, 0)] [20] _)
        refine sd_get hC (ci := 10) (j := 32) (C := RX10) (T := TX10) (N := 45) rfl rfl (by decide) in_X10 wl_5_196 dX10_opens_153 (?_ : Sd X 156 [(0, 20), (1, 0), (2, 0), (3, 0)] [100] _)
        refine sd_sipush hC dX10_opens_156 (by decide) (?_ : Sd X 159 [(0, 20), (1, 0), (2, 0), (3, 0)] [0, 100] _)
        refine sd_iload_n hC dX10_opens_159 rfl (by decide) (?_ : Sd X 160 [(0, 20), (1, 0), (2, 0), (3, 0)] [0, 0, 100] _)
        refine sd_iadd hC dX10_opens_160 (?_ : Sd X 161 [(0, 20), (1, 0), (2, 0), (3, 0)] [0, 100] _)
        refine sd_dup2 hC (by decide) (by decide) dX10_opens_161 (?_ : Sd X 162 [(0, 20), (1, 0), (2, 0), (3, 0)] [0, 100, 0, 100] _)
        refine sd_iaload hC dX10_opens_162 (?_ : Sd X 163 [(0, 20), (1, 0), (2, 0), (3, 0)] [0, 0, 100] _)
        refine sd_iload_n hC dX10_opens_163 rfl (by decide) (?_ : Sd X 164 [(0, 20), (1, 0), (2, 0), (3, 0)] [0, 0, 0, 100] _)
        refine sd_aload_n hC 20 dX10_opens_164 rfl (by decide) (by decide) (?_ : Sd X 165 [(0, 20), (1, 0), (2, 0), (3, 0)] [20, 0, 0, 0, 100] _)
        refine sd_iload_n hC dX10_opens_165 rfl (by decide) (?_ : Sd X 166 [(0, 20), (1, 0), (2, 0), (3, 0)] [0, 20, 0, 0, 0, 100] _)
        refine sd_iconst hC dX10_opens_166 ⟨by decide, by decide⟩ (?_ : Sd X 167 [(0, 20), (1, 0), (2, 0), (3, 0)] [0, 0, 20, 0, 0, 0, 100] _)
        refine sd_inv0 (τ := [0, 0, 0, 100]) (τr := [0, 0]) (ci := 10) (q := (RX10, TX10, 45)) hC WG (M_X10_of _) rfl rfl rfl rfl  rfl rfl wl_7_131 wl_7_133 wp_96 wl_1_10 wl_7_134 hd_X10_of (by rw [e3]; decide) (by decide) dX10_opens_167 (?_ : Sd X 170 [(0, 20), (1, 0), (2, 0), (3, 0)] [0, 0, 0, 0, 100] _)
        refine sd_imul hC dX10_opens_170 (?_ : Sd X 171 [(0, 20), (1, 0), (2, 0), (3, 0)] [0, 0, 0, 100] _)
        refine sd_iadd hC dX10_opens_171 (?_ : Sd X 172 [(0, 20), (1, 0), (2, 0), (3, 0)] [0, 0, 100] _)
        refine sd_iastore hC dX10_opens_172 (?_ : Sd X 173 [(0, 20), (1, 0), (2, 0), (3, 0)] [] _)
        exact sd_return hC hT dX10_opens_173
      · exact sd_return hC hT dX10_opens_92
    · refine sd_aload_n hC 20 dX10_opens_23 rfl (by decide) (by decide) (?_ : Sd X 24 [(0, 20), (1, 0), (2, 0), (3, 0)] [20] _)
      refine sd_get hC (ci := 10) (j := 32) (C := RX10) (T := TX10) (N := 45) rfl rfl (by decide) in_X10 wl_5_196 dX10_opens_24 (?_ : Sd X 27 [(0, 20), (1, 0), (2, 0), (3, 0)] [100] _)
      refine sd_bipush hC dX10_opens_27 (by decide) (?_ : Sd X 29 [(0, 20), (1, 0), (2, 0), (3, 0)] [0, 100] _)
      refine sd_iload_n hC dX10_opens_29 rfl (by decide) (?_ : Sd X 30 [(0, 20), (1, 0), (2, 0), (3, 0)] [0, 0, 100] _)
      refine sd_imul hC dX10_opens_30 (?_ : Sd X 31 [(0, 20), (1, 0), (2, 0), (3, 0)] [0, 100] _)
      refine sd_iconst hC dX10_opens_31 ⟨by decide, by decide⟩ (?_ : Sd X 32 [(0, 20), (1, 0), (2, 0), (3, 0)] [0, 0, 100] _)
      refine sd_iadd hC dX10_opens_32 (?_ : Sd X 33 [(0, 20), (1, 0), (2, 0), (3, 0)] [0, 100] _)
      refine sd_iaload hC dX10_opens_33 (?_ : Sd X 34 [(0, 20), (1, 0), (2, 0), (3, 0)] [0] _)
      refine sd_iconst hC dX10_opens_34 ⟨by decide, by decide⟩ (?_ : Sd X 35 [(0, 20), (1, 0), (2, 0), (3, 0)] [0, 0] _)
      refine sd_icmp_ne (tgt := 81) hC dX10_opens_35 rfl (?_ : Sd X 81 [(0, 20), (1, 0), (2, 0), (3, 0)] [] _) (?_ : Sd X 38 [(0, 20), (1, 0), (2, 0), (3, 0)] [] _)
      · exact Sd.weak (by decide) (S_81 k15 h15)
      · refine sd_aload_n hC 20 dX10_opens_38 rfl (by decide) (by decide) (?_ : Sd X 39 [(0, 20), (1, 0), (2, 0), (3, 0)] [20] _)
        refine sd_iload_n hC dX10_opens_39 rfl (by decide) (?_ : Sd X 40 [(0, 20), (1, 0), (2, 0), (3, 0)] [0, 20] _)
        refine sd_inv0 (τ := []) (τr := [0]) (ci := 10) (q := (RX10, TX10, 45)) hC WG (M_X10_gateNext _) rfl rfl rfl rfl  rfl rfl wl_8_43 wl_8_45 wp_118 wl_1_10 wl_8_46 hd_X10_gateNext (by rw [e3]; decide) (by decide) dX10_opens_40 (?_ : Sd X 43 [(0, 20), (1, 0), (2, 0), (3, 0)] [0] _)
        refine sd_iload_n hC dX10_opens_43 rfl (by decide) (?_ : Sd X 44 [(0, 20), (1, 0), (2, 0), (3, 0)] [0, 0] _)
        refine sd_icmp_ne (tgt := 81) hC dX10_opens_44 rfl (?_ : Sd X 81 [(0, 20), (1, 0), (2, 0), (3, 0)] [] _) (?_ : Sd X 47 [(0, 20), (1, 0), (2, 0), (3, 0)] [] _)
        · exact Sd.weak (by decide) (S_81 k15 h15)
        · refine sd_iload_n hC dX10_opens_47 rfl (by decide) (?_ : Sd X 48 [(0, 20), (1, 0), (2, 0), (3, 0)] [0] _)
          refine sd_iconst hC dX10_opens_48 ⟨by decide, by decide⟩ (?_ : Sd X 49 [(0, 20), (1, 0), (2, 0), (3, 0)] [0, 0] _)
          refine sd_icmp_eq (tgt := 79) hC dX10_opens_49 rfl (?_ : Sd X 79 [(0, 20), (1, 0), (2, 0), (3, 0)] [] _) (?_ : Sd X 52 [(0, 20), (1, 0), (2, 0), (3, 0)] [] _)
          · exact Sd.weak (by decide) (S_79 k15 h15)
          · refine sd_aload_n hC 20 dX10_opens_52 rfl (by decide) (by decide) (?_ : Sd X 53 [(0, 20), (1, 0), (2, 0), (3, 0)] [20] _)
            refine sd_get hC (ci := 10) (j := 32) (C := RX10) (T := TX10) (N := 45) rfl rfl (by decide) in_X10 wl_5_196 dX10_opens_53 (?_ : Sd X 56 [(0, 20), (1, 0), (2, 0), (3, 0)] [100] _)
            refine sd_bipush hC dX10_opens_56 (by decide) (?_ : Sd X 58 [(0, 20), (1, 0), (2, 0), (3, 0)] [0, 100] _)
            refine sd_iload_n hC dX10_opens_58 rfl (by decide) (?_ : Sd X 59 [(0, 20), (1, 0), (2, 0), (3, 0)] [0, 0, 100] _)
            refine sd_imul hC dX10_opens_59 (?_ : Sd X 60 [(0, 20), (1, 0), (2, 0), (3, 0)] [0, 100] _)
            refine sd_bipush hC dX10_opens_60 (by decide) (?_ : Sd X 62 [(0, 20), (1, 0), (2, 0), (3, 0)] [0, 0, 100] _)
            refine sd_iadd hC dX10_opens_62 (?_ : Sd X 63 [(0, 20), (1, 0), (2, 0), (3, 0)] [0, 100] _)
            refine sd_iaload hC dX10_opens_63 (?_ : Sd X 64 [(0, 20), (1, 0), (2, 0), (3, 0)] [0] _)
            refine sd_aload_n hC 20 dX10_opens_64 rfl (by decide) (by decide) (?_ : Sd X 65 [(0, 20), (1, 0), (2, 0), (3, 0)] [20, 0] _)
            refine sd_get hC (ci := 10) (j := 32) (C := RX10) (T := TX10) (N := 45) rfl rfl (by decide) in_X10 wl_5_196 dX10_opens_65 (?_ : Sd X 68 [(0, 20), (1, 0), (2, 0), (3, 0)] [100, 0] _)
            refine sd_bipush hC dX10_opens_68 (by decide) (?_ : Sd X 70 [(0, 20), (1, 0), (2, 0), (3, 0)] [0, 100, 0] _)
            refine sd_iload_n hC dX10_opens_70 rfl (by decide) (?_ : Sd X 71 [(0, 20), (1, 0), (2, 0), (3, 0)] [0, 0, 100, 0] _)
            refine sd_imul hC dX10_opens_71 (?_ : Sd X 72 [(0, 20), (1, 0), (2, 0), (3, 0)] [0, 100, 0] _)
            refine sd_bipush hC dX10_opens_72 (by decide) (?_ : Sd X 74 [(0, 20), (1, 0), (2, 0), (3, 0)] [0, 0, 100, 0] _)
            refine sd_iadd hC dX10_opens_74 (?_ : Sd X 75 [(0, 20), (1, 0), (2, 0), (3, 0)] [0, 100, 0] _)
            refine sd_iaload hC dX10_opens_75 (?_ : Sd X 76 [(0, 20), (1, 0), (2, 0), (3, 0)] [0, 0] _)
            refine sd_icmp_ge (tgt := 81) hC dX10_opens_76 rfl (?_ : Sd X 81 [(0, 20), (1, 0), (2, 0), (3, 0)] [] _) (?_ : Sd X 79 [(0, 20), (1, 0), (2, 0), (3, 0)] [] _)
            · exact Sd.weak (by decide) (S_81 k15 h15)
            · exact Sd.weak (by decide) (S_79 k15 h15)
  refine (?_ : Sd X 0 [(0, 20), (1, 0)] [] (E_X10_opens Q))
  unfold E_X10_opens
  refine sd_aload_n hC 20 dX10_opens_0 rfl (by decide) (by decide) (?_ : Sd X 1 [(0, 20), (1, 0)] [20] _)
  refine sd_iload_n hC dX10_opens_1 rfl (by decide) (?_ : Sd X 2 [(0, 20), (1, 0)] [0, 20] _)
  refine sd_inv0 (τ := []) (τr := [0]) (ci := 10) (q := (RX10, TX10, 45)) hC WG (M_X10_busyAt _) rfl rfl rfl rfl  rfl rfl wl_8_55 wl_8_57 wp_121 wl_1_10 wl_8_58 hd_X10_busyAt (by rw [e3]; decide) (by decide) dX10_opens_2 (?_ : Sd X 5 [(0, 20), (1, 0)] [0] _)
  refine sd_bipush hC dX10_opens_5 (by decide) (?_ : Sd X 7 [(0, 20), (1, 0)] [0, 0] _)
  refine sd_icmp_eq (tgt := 11) hC dX10_opens_7 rfl (?_ : Sd X 11 [(0, 20), (1, 0)] [] _) (?_ : Sd X 10 [(0, 20), (1, 0)] [] _)
  · refine sd_iconst hC dX10_opens_11 ⟨by decide, by decide⟩ (?_ : Sd X 12 [(0, 20), (1, 0)] [0] _)
    refine sd_istore_n (Γ' := [(0, 20), (1, 0), (2, 0)]) hC dX10_opens_12 rfl (by rw [e2]; decide) (by decide) (?_ : Sd X 13 [(0, 20), (1, 0), (2, 0)] [] _)
    refine sd_iconst hC dX10_opens_13 ⟨by decide, by decide⟩ (?_ : Sd X 14 [(0, 20), (1, 0), (2, 0)] [0] _)
    refine sd_istore_n (Γ' := [(0, 20), (1, 0), (2, 0), (3, 0)]) hC dX10_opens_14 rfl (by rw [e2]; decide) (by decide) (?_ : Sd X 15 [(0, 20), (1, 0), (2, 0), (3, 0)] [] _)
    exact Sd.weak (by decide) (S_15)
  · exact sd_return hC hT dX10_opens_10
theorem wl_8_59 : Cond.methodLink RX10 498 yX10_drives ∈ WALL := tb8 (List.mem_of_getElem? (i := 59) rfl) rfl
theorem wl_8_61 : Cond.instanceMethod yX10_drives ∈ WALL := tb8 (List.mem_of_getElem? (i := 61) rfl) rfl
theorem wp_122 : Cond.selects RX10 yX10_drives yX10_drives ∈ WALL := tbS (List.mem_of_getElem? (i := 122) rfl)
theorem wl_8_62 : Cond.code yX10_drives cX10_drives 4 none ∈ WALL := tb8 (List.mem_of_getElem? (i := 62) rfl) rfl
theorem wl_8_51 : Cond.methodLink RX10 495 yX10_opens ∈ WALL := tb8 (List.mem_of_getElem? (i := 51) rfl) rfl
theorem wl_8_53 : Cond.instanceMethod yX10_opens ∈ WALL := tb8 (List.mem_of_getElem? (i := 53) rfl) rfl
theorem wp_120 : Cond.selects RX10 yX10_opens yX10_opens ∈ WALL := tbS (List.mem_of_getElem? (i := 120) rfl)
theorem wl_8_54 : Cond.code yX10_opens cX10_opens 4 none ∈ WALL := tb8 (List.mem_of_getElem? (i := 54) rfl) rfl
theorem wl_8_31 : Cond.methodLink RX10 492 yX10_moves ∈ WALL := tb8 (List.mem_of_getElem? (i := 31) rfl) rfl
theorem wl_8_33 : Cond.instanceMethod yX10_moves ∈ WALL := tb8 (List.mem_of_getElem? (i := 33) rfl) rfl
theorem wp_115 : Cond.selects RX10 yX10_moves yX10_moves ∈ WALL := tbS (List.mem_of_getElem? (i := 115) rfl)
theorem wl_8_34 : Cond.code yX10_moves cX10_moves 4 none ∈ WALL := tb8 (List.mem_of_getElem? (i := 34) rfl) rfl
theorem hd_X10_passes : yX10_passes.cls ≠ "java/lang/invoke/MethodHandle" ∧ yX10_passes.cls ≠ "java/lang/invoke/VarHandle" ∧ (parseMethodDescriptor yX10_passes.desc).map (fun d => d.parameters.length) = some 0 := by decide +kernel
set_option maxRecDepth 100000 in
set_option maxHeartbeats 4000000 in
theorem M_X10_passes (l : Launch) : Mt l yX10_passes (Cond.code yX10_passes cX10_passes 2 none :: WALL) { frames := 3, cells := 0, slots := 0, locals := 66 } [20] none T_X10_passes := by
  refine Mt.mk (B := E_X10_passes) (by decide +kernel) (by decide) (fun _ _ _ hh => hh) ?_
  intro X Q e1 e2 e3 hC hN hT
  subst e1
  have hC : CF X cX10_passes RX10 WALL := hC
  have S_187 : ∀ (k132 : tK), Sd X 132 [(0, 20), (1, 0)] [] k132 → Sd X 187 [(0, 20), (1, 0)] [0, 0, 0, 100] (B_X10_passes_187 Q k132) := by
    intro k132 h132
    unfold B_X10_passes_187
    refine sd_iadd hC dX10_passes_187 (?_ : Sd X 188 [(0, 20), (1, 0)] [0, 0, 100] _)
    refine sd_iastore hC dX10_passes_188 (?_ : Sd X 189 [(0, 20), (1, 0)] [] _)
    refine sd_iinc (Γ' := [(0, 20), (1, 0)]) hC dX10_passes_189 (by decide) (by rw [e2]; decide) (by decide) (?_ : Sd X 192 [(0, 20), (1, 0)] [] _)
    refine sd_goto (tgt := 132) hC dX10_passes_192 rfl (?_ : Sd X 132 [(0, 20), (1, 0)] [] _)
    exact Sd.weak (by decide) h132
  have S_182 : ∀ (k132 : tK), Sd X 132 [(0, 20), (1, 0)] [] k132 → Sd X 182 [(0, 20), (1, 0)] [0, 0, 100] (B_X10_passes_182 Q k132) := by
    intro k132 h132
    unfold B_X10_passes_182
    refine sd_iconst hC dX10_passes_182 ⟨by decide, by decide⟩ (?_ : Sd X 183 [(0, 20), (1, 0)] [0, 0, 0, 100] _)
    refine sd_goto (tgt := 187) hC dX10_passes_183 rfl (?_ : Sd X 187 [(0, 20), (1, 0)] [0, 0, 0, 100] _)
    exact Sd.weak (by decide) (S_187 k132 h132)
  have S_132 : Sd X 132 [(0, 20), (1, 0)] [] (L_X10_passes_132 Q) := by
    unfold L_X10_passes_132
    refine Sd.loop (fun k132 h132 => ?_)
    refine sd_iload_n hC dX10_passes_132 rfl (by decide) (?_ : Sd X 133 [(0, 20), (1, 0)] [0] _)
    refine sd_aload_n hC 20 dX10_passes_133 rfl (by decide) (by decide) (?_ : Sd X 134 [(0, 20), (1, 0)] [20, 0] _)
    refine sd_get hC (ci := 10) (j := 38) (C := RX10) (T := TX10) (N := 45) rfl rfl (by decide) in_X10 wl_5_202 dX10_passes_134 (?_ : Sd X 137 [(0, 20), (1, 0)] [0, 0] _)
    refine sd_icmp_ge (tgt := 195) hC dX10_passes_137 rfl (?_ : Sd X 195 [(0, 20), (1, 0)] [] _) (?_ : Sd X 140 [(0, 20), (1, 0)] [] _)
    · refine sd_aload_n hC 20 dX10_passes_195 rfl (by decide) (by decide) (?_ : Sd X 196 [(0, 20), (1, 0)] [20] _)
      refine sd_get hC (ci := 10) (j := 32) (C := RX10) (T := TX10) (N := 45) rfl rfl (by decide) in_X10 wl_5_196 dX10_passes_196 (?_ : Sd X 199 [(0, 20), (1, 0)] [100] _)
      refine sd_sipush hC dX10_passes_199 (by decide) (?_ : Sd X 202 [(0, 20), (1, 0)] [0, 100] _)
      refine sd_dup2 hC (by decide) (by decide) dX10_passes_202 (?_ : Sd X 203 [(0, 20), (1, 0)] [0, 100, 0, 100] _)
      refine sd_iaload hC dX10_passes_203 (?_ : Sd X 204 [(0, 20), (1, 0)] [0, 0, 100] _)
      refine sd_iconst hC dX10_passes_204 ⟨by decide, by decide⟩ (?_ : Sd X 205 [(0, 20), (1, 0)] [0, 0, 0, 100] _)
      refine sd_iadd hC dX10_passes_205 (?_ : Sd X 206 [(0, 20), (1, 0)] [0, 0, 100] _)
      refine sd_iastore hC dX10_passes_206 (?_ : Sd X 207 [(0, 20), (1, 0)] [] _)
      exact sd_return hC hT dX10_passes_207
    · refine sd_aload_n hC 20 dX10_passes_140 rfl (by decide) (by decide) (?_ : Sd X 141 [(0, 20), (1, 0)] [20] _)
      refine sd_get hC (ci := 10) (j := 32) (C := RX10) (T := TX10) (N := 45) rfl rfl (by decide) in_X10 wl_5_196 dX10_passes_141 (?_ : Sd X 144 [(0, 20), (1, 0)] [100] _)
      refine sd_bipush hC dX10_passes_144 (by decide) (?_ : Sd X 146 [(0, 20), (1, 0)] [0, 100] _)
      refine sd_iload_n hC dX10_passes_146 rfl (by decide) (?_ : Sd X 147 [(0, 20), (1, 0)] [0, 0, 100] _)
      refine sd_imul hC dX10_passes_147 (?_ : Sd X 148 [(0, 20), (1, 0)] [0, 100] _)
      refine sd_iconst hC dX10_passes_148 ⟨by decide, by decide⟩ (?_ : Sd X 149 [(0, 20), (1, 0)] [0, 0, 100] _)
      refine sd_iadd hC dX10_passes_149 (?_ : Sd X 150 [(0, 20), (1, 0)] [0, 100] _)
      refine sd_dup2 hC (by decide) (by decide) dX10_passes_150 (?_ : Sd X 151 [(0, 20), (1, 0)] [0, 100, 0, 100] _)
      refine sd_iaload hC dX10_passes_151 (?_ : Sd X 152 [(0, 20), (1, 0)] [0, 0, 100] _)
      refine sd_aload_n hC 20 dX10_passes_152 rfl (by decide) (by decide) (?_ : Sd X 153 [(0, 20), (1, 0)] [20, 0, 0, 100] _)
      refine sd_get hC (ci := 10) (j := 32) (C := RX10) (T := TX10) (N := 45) rfl rfl (by decide) in_X10 wl_5_196 dX10_passes_153 (?_ : Sd X 156 [(0, 20), (1, 0)] [100, 0, 0, 100] _)
      refine sd_bipush hC dX10_passes_156 (by decide) (?_ : Sd X 158 [(0, 20), (1, 0)] [0, 100, 0, 0, 100] _)
      refine sd_iload_n hC dX10_passes_158 rfl (by decide) (?_ : Sd X 159 [(0, 20), (1, 0)] [0, 0, 100, 0, 0, 100] _)
      refine sd_imul hC dX10_passes_159 (?_ : Sd X 160 [(0, 20), (1, 0)] [0, 100, 0, 0, 100] _)
      refine sd_iconst hC dX10_passes_160 ⟨by decide, by decide⟩ (?_ : Sd X 161 [(0, 20), (1, 0)] [0, 0, 100, 0, 0, 100] _)
      refine sd_iadd hC dX10_passes_161 (?_ : Sd X 162 [(0, 20), (1, 0)] [0, 100, 0, 0, 100] _)
      refine sd_iaload hC dX10_passes_162 (?_ : Sd X 163 [(0, 20), (1, 0)] [0, 0, 0, 100] _)
      refine sd_iconst hC dX10_passes_163 ⟨by decide, by decide⟩ (?_ : Sd X 164 [(0, 20), (1, 0)] [0, 0, 0, 0, 100] _)
      refine sd_icmp_eq (tgt := 182) hC dX10_passes_164 rfl (?_ : Sd X 182 [(0, 20), (1, 0)] [0, 0, 100] _) (?_ : Sd X 167 [(0, 20), (1, 0)] [0, 0, 100] _)
      · exact Sd.weak (by decide) (S_182 k132 h132)
      · refine sd_aload_n hC 20 dX10_passes_167 rfl (by decide) (by decide) (?_ : Sd X 168 [(0, 20), (1, 0)] [20, 0, 0, 100] _)
        refine sd_get hC (ci := 10) (j := 32) (C := RX10) (T := TX10) (N := 45) rfl rfl (by decide) in_X10 wl_5_196 dX10_passes_168 (?_ : Sd X 171 [(0, 20), (1, 0)] [100, 0, 0, 100] _)
        refine sd_bipush hC dX10_passes_171 (by decide) (?_ : Sd X 173 [(0, 20), (1, 0)] [0, 100, 0, 0, 100] _)
        refine sd_iload_n hC dX10_passes_173 rfl (by decide) (?_ : Sd X 174 [(0, 20), (1, 0)] [0, 0, 100, 0, 0, 100] _)
        refine sd_imul hC dX10_passes_174 (?_ : Sd X 175 [(0, 20), (1, 0)] [0, 100, 0, 0, 100] _)
        refine sd_iconst hC dX10_passes_175 ⟨by decide, by decide⟩ (?_ : Sd X 176 [(0, 20), (1, 0)] [0, 0, 100, 0, 0, 100] _)
        refine sd_iadd hC dX10_passes_176 (?_ : Sd X 177 [(0, 20), (1, 0)] [0, 100, 0, 0, 100] _)
        refine sd_iaload hC dX10_passes_177 (?_ : Sd X 178 [(0, 20), (1, 0)] [0, 0, 0, 100] _)
        refine sd_iconst hC dX10_passes_178 ⟨by decide, by decide⟩ (?_ : Sd X 179 [(0, 20), (1, 0)] [0, 0, 0, 0, 100] _)
        refine sd_icmp_ne (tgt := 186) hC dX10_passes_179 rfl (?_ : Sd X 186 [(0, 20), (1, 0)] [0, 0, 100] _) (?_ : Sd X 182 [(0, 20), (1, 0)] [0, 0, 100] _)
        · refine sd_iconst hC dX10_passes_186 ⟨by decide, by decide⟩ (?_ : Sd X 187 [(0, 20), (1, 0)] [0, 0, 0, 100] _)
          exact Sd.weak (by decide) (S_187 k132 h132)
        · exact Sd.weak (by decide) (S_182 k132 h132)
  have S_111 : Sd X 111 [(0, 20), (1, 0)] [] (L_X10_passes_111 Q) := by
    unfold L_X10_passes_111
    refine Sd.loop (fun k111 h111 => ?_)
    refine sd_iload_n hC dX10_passes_111 rfl (by decide) (?_ : Sd X 112 [(0, 20), (1, 0)] [0] _)
    refine sd_aload_n hC 20 dX10_passes_112 rfl (by decide) (by decide) (?_ : Sd X 113 [(0, 20), (1, 0)] [20, 0] _)
    refine sd_get hC (ci := 10) (j := 38) (C := RX10) (T := TX10) (N := 45) rfl rfl (by decide) in_X10 wl_5_202 dX10_passes_113 (?_ : Sd X 116 [(0, 20), (1, 0)] [0, 0] _)
    refine sd_icmp_ge (tgt := 130) hC dX10_passes_116 rfl (?_ : Sd X 130 [(0, 20), (1, 0)] [] _) (?_ : Sd X 119 [(0, 20), (1, 0)] [] _)
    · refine sd_iconst hC dX10_passes_130 ⟨by decide, by decide⟩ (?_ : Sd X 131 [(0, 20), (1, 0)] [0] _)
      refine sd_istore_n (Γ' := [(0, 20), (1, 0)]) hC dX10_passes_131 rfl (by rw [e2]; decide) (by decide) (?_ : Sd X 132 [(0, 20), (1, 0)] [] _)
      exact Sd.weak (by decide) (S_132)
    · refine sd_aload_n hC 20 dX10_passes_119 rfl (by decide) (by decide) (?_ : Sd X 120 [(0, 20), (1, 0)] [20] _)
      refine sd_iload_n hC dX10_passes_120 rfl (by decide) (?_ : Sd X 121 [(0, 20), (1, 0)] [0, 20] _)
      refine sd_inv0v (τ := []) (τr := [0]) (ci := 10) (q := (RX10, TX10, 45)) hC WG (M_X10_drives _) rfl rfl rfl rfl  rfl rfl wl_8_59 wl_8_61 wp_122 wl_1_10 wl_8_62 hd_X10_drives (by rw [e3]; decide) (by decide) dX10_passes_121 (?_ : Sd X 124 [(0, 20), (1, 0)] [] _)
      refine sd_iinc (Γ' := [(0, 20), (1, 0)]) hC dX10_passes_124 (by decide) (by rw [e2]; decide) (by decide) (?_ : Sd X 127 [(0, 20), (1, 0)] [] _)
      refine sd_goto (tgt := 111) hC dX10_passes_127 rfl (?_ : Sd X 111 [(0, 20), (1, 0)] [] _)
      exact Sd.weak (by decide) h111
  have S_103 : ∀ (k44 : tK), Sd X 44 [(0, 20), (1, 0)] [] k44 → Sd X 103 [(0, 20), (1, 0)] [] (B_X10_passes_103 Q k44) := by
    intro k44 h44
    unfold B_X10_passes_103
    refine sd_iinc (Γ' := [(0, 20), (1, 0)]) hC dX10_passes_103 (by decide) (by rw [e2]; decide) (by decide) (?_ : Sd X 106 [(0, 20), (1, 0)] [] _)
    refine sd_goto (tgt := 44) hC dX10_passes_106 rfl (?_ : Sd X 44 [(0, 20), (1, 0)] [] _)
    exact Sd.weak (by decide) h44
  have S_44 : Sd X 44 [(0, 20), (1, 0)] [] (L_X10_passes_44 Q) := by
    unfold L_X10_passes_44
    refine Sd.loop (fun k44 h44 => ?_)
    refine sd_iload_n hC dX10_passes_44 rfl (by decide) (?_ : Sd X 45 [(0, 20), (1, 0)] [0] _)
    refine sd_aload_n hC 20 dX10_passes_45 rfl (by decide) (by decide) (?_ : Sd X 46 [(0, 20), (1, 0)] [20, 0] _)
    refine sd_get hC (ci := 10) (j := 38) (C := RX10) (T := TX10) (N := 45) rfl rfl (by decide) in_X10 wl_5_202 dX10_passes_46 (?_ : Sd X 49 [(0, 20), (1, 0)] [0, 0] _)
    refine sd_icmp_ge (tgt := 109) hC dX10_passes_49 rfl (?_ : Sd X 109 [(0, 20), (1, 0)] [] _) (?_ : Sd X 52 [(0, 20), (1, 0)] [] _)
    · refine sd_iconst hC dX10_passes_109 ⟨by decide, by decide⟩ (?_ : Sd X 110 [(0, 20), (1, 0)] [0] _)
      refine sd_istore_n (Γ' := [(0, 20), (1, 0)]) hC dX10_passes_110 rfl (by rw [e2]; decide) (by decide) (?_ : Sd X 111 [(0, 20), (1, 0)] [] _)
      exact Sd.weak (by decide) (S_111)
    · refine sd_aload_n hC 20 dX10_passes_52 rfl (by decide) (by decide) (?_ : Sd X 53 [(0, 20), (1, 0)] [20] _)
      refine sd_get hC (ci := 10) (j := 32) (C := RX10) (T := TX10) (N := 45) rfl rfl (by decide) in_X10 wl_5_196 dX10_passes_53 (?_ : Sd X 56 [(0, 20), (1, 0)] [100] _)
      refine sd_bipush hC dX10_passes_56 (by decide) (?_ : Sd X 58 [(0, 20), (1, 0)] [0, 100] _)
      refine sd_iload_n hC dX10_passes_58 rfl (by decide) (?_ : Sd X 59 [(0, 20), (1, 0)] [0, 0, 100] _)
      refine sd_imul hC dX10_passes_59 (?_ : Sd X 60 [(0, 20), (1, 0)] [0, 100] _)
      refine sd_iconst hC dX10_passes_60 ⟨by decide, by decide⟩ (?_ : Sd X 61 [(0, 20), (1, 0)] [0, 0, 100] _)
      refine sd_iadd hC dX10_passes_61 (?_ : Sd X 62 [(0, 20), (1, 0)] [0, 100] _)
      refine sd_iaload hC dX10_passes_62 (?_ : Sd X 63 [(0, 20), (1, 0)] [0] _)
      refine sd_if_ne (tgt := 103) hC dX10_passes_63 rfl (?_ : Sd X 103 [(0, 20), (1, 0)] [] _) (?_ : Sd X 66 [(0, 20), (1, 0)] [] _)
      · exact Sd.weak (by decide) (S_103 k44 h44)
      · refine sd_aload_n hC 20 dX10_passes_66 rfl (by decide) (by decide) (?_ : Sd X 67 [(0, 20), (1, 0)] [20] _)
        refine sd_get hC (ci := 10) (j := 3) (C := RX10) (T := TX10) (N := 45) rfl rfl (by decide) in_X10 wl_5_167 dX10_passes_67 (?_ : Sd X 70 [(0, 20), (1, 0)] [19] _)
        refine sd_getN hC (ci := 9) (j := 25) (C := RX9) (T := TX9) (N := 28) (host := "NarrowRingsModel") rfl rfl (by decide) in_X9 (by decide) dX10_passes_70 (?_ : Sd X 73 [(0, 20), (1, 0)] [100] _)
        refine sd_aload_n hC 20 dX10_passes_73 rfl (by decide) (by decide) (?_ : Sd X 74 [(0, 20), (1, 0)] [20, 100] _)
        refine sd_get hC (ci := 10) (j := 34) (C := RX10) (T := TX10) (N := 45) rfl rfl (by decide) in_X10 wl_5_198 dX10_passes_74 (?_ : Sd X 77 [(0, 20), (1, 0)] [100, 100] _)
        refine sd_iload_n hC dX10_passes_77 rfl (by decide) (?_ : Sd X 78 [(0, 20), (1, 0)] [0, 100, 100] _)
        refine sd_iaload hC dX10_passes_78 (?_ : Sd X 79 [(0, 20), (1, 0)] [0, 100] _)
        refine sd_iaload hC dX10_passes_79 (?_ : Sd X 80 [(0, 20), (1, 0)] [0] _)
        refine sd_aload_n hC 20 dX10_passes_80 rfl (by decide) (by decide) (?_ : Sd X 81 [(0, 20), (1, 0)] [20, 0] _)
        refine sd_get hC (ci := 10) (j := 32) (C := RX10) (T := TX10) (N := 45) rfl rfl (by decide) in_X10 wl_5_196 dX10_passes_81 (?_ : Sd X 84 [(0, 20), (1, 0)] [100, 0] _)
        refine sd_sipush hC dX10_passes_84 (by decide) (?_ : Sd X 87 [(0, 20), (1, 0)] [0, 100, 0] _)
        refine sd_iaload hC dX10_passes_87 (?_ : Sd X 88 [(0, 20), (1, 0)] [0, 0] _)
        refine sd_icmp_ne (tgt := 103) hC dX10_passes_88 rfl (?_ : Sd X 103 [(0, 20), (1, 0)] [] _) (?_ : Sd X 91 [(0, 20), (1, 0)] [] _)
        · exact Sd.weak (by decide) (S_103 k44 h44)
        · refine sd_aload_n hC 20 dX10_passes_91 rfl (by decide) (by decide) (?_ : Sd X 92 [(0, 20), (1, 0)] [20] _)
          refine sd_get hC (ci := 10) (j := 32) (C := RX10) (T := TX10) (N := 45) rfl rfl (by decide) in_X10 wl_5_196 dX10_passes_92 (?_ : Sd X 95 [(0, 20), (1, 0)] [100] _)
          refine sd_bipush hC dX10_passes_95 (by decide) (?_ : Sd X 97 [(0, 20), (1, 0)] [0, 100] _)
          refine sd_iload_n hC dX10_passes_97 rfl (by decide) (?_ : Sd X 98 [(0, 20), (1, 0)] [0, 0, 100] _)
          refine sd_imul hC dX10_passes_98 (?_ : Sd X 99 [(0, 20), (1, 0)] [0, 100] _)
          refine sd_iconst hC dX10_passes_99 ⟨by decide, by decide⟩ (?_ : Sd X 100 [(0, 20), (1, 0)] [0, 0, 100] _)
          refine sd_iadd hC dX10_passes_100 (?_ : Sd X 101 [(0, 20), (1, 0)] [0, 100] _)
          refine sd_iconst hC dX10_passes_101 ⟨by decide, by decide⟩ (?_ : Sd X 102 [(0, 20), (1, 0)] [0, 0, 100] _)
          refine sd_iastore hC dX10_passes_102 (?_ : Sd X 103 [(0, 20), (1, 0)] [] _)
          exact Sd.weak (by decide) (S_103 k44 h44)
  have S_23 : Sd X 23 [(0, 20), (1, 0)] [] (L_X10_passes_23 Q) := by
    unfold L_X10_passes_23
    refine Sd.loop (fun k23 h23 => ?_)
    refine sd_iload_n hC dX10_passes_23 rfl (by decide) (?_ : Sd X 24 [(0, 20), (1, 0)] [0] _)
    refine sd_aload_n hC 20 dX10_passes_24 rfl (by decide) (by decide) (?_ : Sd X 25 [(0, 20), (1, 0)] [20, 0] _)
    refine sd_get hC (ci := 10) (j := 17) (C := RX10) (T := TX10) (N := 45) rfl rfl (by decide) in_X10 wl_5_181 dX10_passes_25 (?_ : Sd X 28 [(0, 20), (1, 0)] [0, 0] _)
    refine sd_icmp_ge (tgt := 42) hC dX10_passes_28 rfl (?_ : Sd X 42 [(0, 20), (1, 0)] [] _) (?_ : Sd X 31 [(0, 20), (1, 0)] [] _)
    · refine sd_iconst hC dX10_passes_42 ⟨by decide, by decide⟩ (?_ : Sd X 43 [(0, 20), (1, 0)] [0] _)
      refine sd_istore_n (Γ' := [(0, 20), (1, 0)]) hC dX10_passes_43 rfl (by rw [e2]; decide) (by decide) (?_ : Sd X 44 [(0, 20), (1, 0)] [] _)
      exact Sd.weak (by decide) (S_44)
    · refine sd_aload_n hC 20 dX10_passes_31 rfl (by decide) (by decide) (?_ : Sd X 32 [(0, 20), (1, 0)] [20] _)
      refine sd_iload_n hC dX10_passes_32 rfl (by decide) (?_ : Sd X 33 [(0, 20), (1, 0)] [0, 20] _)
      refine sd_inv0v (τ := []) (τr := [0]) (ci := 10) (q := (RX10, TX10, 45)) hC WG (M_X10_opens _) rfl rfl rfl rfl  rfl rfl wl_8_51 wl_8_53 wp_120 wl_1_10 wl_8_54 hd_X10_opens (by rw [e3]; decide) (by decide) dX10_passes_33 (?_ : Sd X 36 [(0, 20), (1, 0)] [] _)
      refine sd_iinc (Γ' := [(0, 20), (1, 0)]) hC dX10_passes_36 (by decide) (by rw [e2]; decide) (by decide) (?_ : Sd X 39 [(0, 20), (1, 0)] [] _)
      refine sd_goto (tgt := 23) hC dX10_passes_39 rfl (?_ : Sd X 23 [(0, 20), (1, 0)] [] _)
      exact Sd.weak (by decide) h23
  have S_2 : Sd X 2 [(0, 20), (1, 0)] [] (L_X10_passes_2 Q) := by
    unfold L_X10_passes_2
    refine Sd.loop (fun k2 h2 => ?_)
    refine sd_iload_n hC dX10_passes_2 rfl (by decide) (?_ : Sd X 3 [(0, 20), (1, 0)] [0] _)
    refine sd_aload_n hC 20 dX10_passes_3 rfl (by decide) (by decide) (?_ : Sd X 4 [(0, 20), (1, 0)] [20, 0] _)
    refine sd_get hC (ci := 10) (j := 38) (C := RX10) (T := TX10) (N := 45) rfl rfl (by decide) in_X10 wl_5_202 dX10_passes_4 (?_ : Sd X 7 [(0, 20), (1, 0)] [0, 0] _)
    refine sd_icmp_ge (tgt := 21) hC dX10_passes_7 rfl (?_ : Sd X 21 [(0, 20), (1, 0)] [] _) (?_ : Sd X 10 [(0, 20), (1, 0)] [] _)
    · refine sd_iconst hC dX10_passes_21 ⟨by decide, by decide⟩ (?_ : Sd X 22 [(0, 20), (1, 0)] [0] _)
      refine sd_istore_n (Γ' := [(0, 20), (1, 0)]) hC dX10_passes_22 rfl (by rw [e2]; decide) (by decide) (?_ : Sd X 23 [(0, 20), (1, 0)] [] _)
      exact Sd.weak (by decide) (S_23)
    · refine sd_aload_n hC 20 dX10_passes_10 rfl (by decide) (by decide) (?_ : Sd X 11 [(0, 20), (1, 0)] [20] _)
      refine sd_iload_n hC dX10_passes_11 rfl (by decide) (?_ : Sd X 12 [(0, 20), (1, 0)] [0, 20] _)
      refine sd_inv0v (τ := []) (τr := [0]) (ci := 10) (q := (RX10, TX10, 45)) hC WG (M_X10_moves _) rfl rfl rfl rfl  rfl rfl wl_8_31 wl_8_33 wp_115 wl_1_10 wl_8_34 hd_X10_moves (by rw [e3]; decide) (by decide) dX10_passes_12 (?_ : Sd X 15 [(0, 20), (1, 0)] [] _)
      refine sd_iinc (Γ' := [(0, 20), (1, 0)]) hC dX10_passes_15 (by decide) (by rw [e2]; decide) (by decide) (?_ : Sd X 18 [(0, 20), (1, 0)] [] _)
      refine sd_goto (tgt := 2) hC dX10_passes_18 rfl (?_ : Sd X 2 [(0, 20), (1, 0)] [] _)
      exact Sd.weak (by decide) h2
  refine (?_ : Sd X 0 [(0, 20)] [] (E_X10_passes Q))
  unfold E_X10_passes
  refine sd_iconst hC dX10_passes_0 ⟨by decide, by decide⟩ (?_ : Sd X 1 [(0, 20)] [0] _)
  refine sd_istore_n (Γ' := [(0, 20), (1, 0)]) hC dX10_passes_1 rfl (by rw [e2]; decide) (by decide) (?_ : Sd X 2 [(0, 20), (1, 0)] [] _)
  exact Sd.weak (by decide) (S_2)
theorem wl_8_27 : Cond.methodLink RX10 501 yX10_passes ∈ WALL := tb8 (List.mem_of_getElem? (i := 27) rfl) rfl
theorem wl_8_29 : Cond.instanceMethod yX10_passes ∈ WALL := tb8 (List.mem_of_getElem? (i := 29) rfl) rfl
theorem wp_114 : Cond.selects RX10 yX10_passes yX10_passes ∈ WALL := tbS (List.mem_of_getElem? (i := 114) rfl)
theorem wl_8_30 : Cond.code yX10_passes cX10_passes 2 none ∈ WALL := tb8 (List.mem_of_getElem? (i := 30) rfl) rfl
theorem hd_X10_pass : yX10_pass.cls ≠ "java/lang/invoke/MethodHandle" ∧ yX10_pass.cls ≠ "java/lang/invoke/VarHandle" ∧ (parseMethodDescriptor yX10_pass.desc).map (fun d => d.parameters.length) = some 1 := by decide +kernel
set_option maxRecDepth 100000 in
set_option maxHeartbeats 4000000 in
theorem M_X10_pass (l : Launch) : Mt l yX10_pass (Cond.code yX10_pass cX10_pass 3 (some .int) :: WALL) { frames := 4, cells := 0, slots := 0, locals := 87 } [20, 0] (some 0) T_X10_pass := by
  refine Mt.mk (B := E_X10_pass) (by decide +kernel) (by decide) (fun _ _ _ hh => hh) ?_
  intro X Q e1 e2 e3 hC hN hT
  subst e1
  have hC : CF X cX10_pass RX10 WALL := hC
  have S_57 : Sd X 57 [(0, 20), (1, 0), (2, 0)] [] (L_X10_pass_57 Q) := by
    unfold L_X10_pass_57
    refine Sd.loop (fun k57 h57 => ?_)
    refine sd_iload_n hC dX10_pass_57 rfl (by decide) (?_ : Sd X 58 [(0, 20), (1, 0), (2, 0)] [0] _)
    refine sd_iload_n hC dX10_pass_58 rfl (by decide) (?_ : Sd X 59 [(0, 20), (1, 0), (2, 0)] [0, 0] _)
    refine sd_icmp_ge (tgt := 72) hC dX10_pass_59 rfl (?_ : Sd X 72 [(0, 20), (1, 0), (2, 0)] [] _) (?_ : Sd X 62 [(0, 20), (1, 0), (2, 0)] [] _)
    · refine sd_aload_n hC 20 dX10_pass_72 rfl (by decide) (by decide) (?_ : Sd X 73 [(0, 20), (1, 0), (2, 0)] [20] _)
      refine sd_aload_n hC 20 dX10_pass_73 rfl (by decide) (by decide) (?_ : Sd X 74 [(0, 20), (1, 0), (2, 0)] [20, 20] _)
      refine sd_get hC (ci := 10) (j := 32) (C := RX10) (T := TX10) (N := 45) rfl rfl (by decide) in_X10 wl_5_196 dX10_pass_74 (?_ : Sd X 77 [(0, 20), (1, 0), (2, 0)] [100, 20] _)
      refine sd_sipush hC dX10_pass_77 (by decide) (?_ : Sd X 80 [(0, 20), (1, 0), (2, 0)] [0, 100, 20] _)
      refine sd_iaload hC dX10_pass_80 (?_ : Sd X 81 [(0, 20), (1, 0), (2, 0)] [0, 20] _)
      refine sd_inv0 (τ := []) (τr := [0]) (ci := 10) (q := (RX10, TX10, 45)) hC WG (M_X10_good _) rfl rfl rfl rfl  rfl rfl wl_7_171 wl_7_173 wp_105 wl_1_10 wl_7_174 hd_X10_good (by rw [e3]; decide) (by decide) dX10_pass_81 (?_ : Sd X 84 [(0, 20), (1, 0), (2, 0)] [0] _)
      exact sd_ireturn hC hT dX10_pass_84
    · refine sd_aload_n hC 20 dX10_pass_62 rfl (by decide) (by decide) (?_ : Sd X 63 [(0, 20), (1, 0), (2, 0)] [20] _)
      refine sd_inv0v (τ := []) (τr := []) (ci := 10) (q := (RX10, TX10, 45)) hC WG (M_X10_passes _) rfl rfl rfl rfl  rfl rfl wl_8_27 wl_8_29 wp_114 wl_1_10 wl_8_30 hd_X10_passes (by rw [e3]; decide) (by decide) dX10_pass_63 (?_ : Sd X 66 [(0, 20), (1, 0), (2, 0)] [] _)
      refine sd_iinc (Γ' := [(0, 20), (1, 0), (2, 0)]) hC dX10_pass_66 (by decide) (by rw [e2]; decide) (by decide) (?_ : Sd X 69 [(0, 20), (1, 0), (2, 0)] [] _)
      refine sd_goto (tgt := 57) hC dX10_pass_69 rfl (?_ : Sd X 57 [(0, 20), (1, 0), (2, 0)] [] _)
      exact Sd.weak (by decide) h57
  refine (?_ : Sd X 0 [(0, 20), (1, 0)] [] (E_X10_pass Q))
  unfold E_X10_pass
  refine sd_aload_n hC 20 dX10_pass_0 rfl (by decide) (by decide) (?_ : Sd X 1 [(0, 20), (1, 0)] [20] _)
  refine sd_iconst hC dX10_pass_1 ⟨by decide, by decide⟩ (?_ : Sd X 2 [(0, 20), (1, 0)] [0, 20] _)
  refine sd_put hC (ci := 10) (j := 0) (C := RX10) (T := TX10) (N := 45) tyX10 tyX10_ok nmX10 rfl rfl (by decide) in_X10 rfl rfl wl_5_164 dX10_pass_2 (?_ : Sd X 5 [(0, 20), (1, 0)] [] _)
  refine sd_aload_n hC 20 dX10_pass_5 rfl (by decide) (by decide) (?_ : Sd X 6 [(0, 20), (1, 0)] [20] _)
  refine sd_get hC (ci := 10) (j := 3) (C := RX10) (T := TX10) (N := 45) rfl rfl (by decide) in_X10 wl_5_167 dX10_pass_6 (?_ : Sd X 9 [(0, 20), (1, 0)] [19] _)
  refine sd_ifnonnull (tgt := 18) hC (by decide) dX10_pass_9 rfl (?_ : Sd X 18 [(0, 20), (1, 0)] [] _) (?_ : Sd X 12 [(0, 20), (1, 0)] [] _)
  · refine sd_iload_n hC dX10_pass_18 rfl (by decide) (?_ : Sd X 19 [(0, 20), (1, 0)] [0] _)
    refine sd_iconst hC dX10_pass_19 ⟨by decide, by decide⟩ (?_ : Sd X 20 [(0, 20), (1, 0)] [0, 0] _)
    refine sd_bipush hC dX10_pass_20 (by decide) (?_ : Sd X 22 [(0, 20), (1, 0)] [0, 0, 0] _)
    refine sd_invs (τ := []) (τs := [0, 0, 0]) hC false "" WG (M_X10_in _) rfl rfl rfl rfl wl_6_238 wl_6_239 wl_1_10 wl_7_0 hd_X10_in (by rw [e3]; decide) (by decide) dX10_pass_22 (?_ : Sd X 25 [(0, 20), (1, 0)] [0] _)
    refine sd_if_ne (tgt := 34) hC dX10_pass_25 rfl (?_ : Sd X 34 [(0, 20), (1, 0)] [] _) (?_ : Sd X 28 [(0, 20), (1, 0)] [] _)
    · refine sd_aload_n hC 20 dX10_pass_34 rfl (by decide) (by decide) (?_ : Sd X 35 [(0, 20), (1, 0)] [20] _)
      refine sd_get hC (ci := 10) (j := 32) (C := RX10) (T := TX10) (N := 45) rfl rfl (by decide) in_X10 wl_5_196 dX10_pass_35 (?_ : Sd X 38 [(0, 20), (1, 0)] [100] _)
      refine sd_sipush hC dX10_pass_38 (by decide) (?_ : Sd X 41 [(0, 20), (1, 0)] [0, 100] _)
      refine sd_iaload hC dX10_pass_41 (?_ : Sd X 42 [(0, 20), (1, 0)] [0] _)
      refine sd_iload_n hC dX10_pass_42 rfl (by decide) (?_ : Sd X 43 [(0, 20), (1, 0)] [0, 0] _)
      refine sd_iadd hC dX10_pass_43 (?_ : Sd X 44 [(0, 20), (1, 0)] [0] _)
      refine sd_bipush hC dX10_pass_44 (by decide) (?_ : Sd X 46 [(0, 20), (1, 0)] [0, 0] _)
      refine sd_icmp_le (tgt := 55) hC dX10_pass_46 rfl (?_ : Sd X 55 [(0, 20), (1, 0)] [] _) (?_ : Sd X 49 [(0, 20), (1, 0)] [] _)
      · refine sd_iconst hC dX10_pass_55 ⟨by decide, by decide⟩ (?_ : Sd X 56 [(0, 20), (1, 0)] [0] _)
        refine sd_istore_n (Γ' := [(0, 20), (1, 0), (2, 0)]) hC dX10_pass_56 rfl (by rw [e2]; decide) (by decide) (?_ : Sd X 57 [(0, 20), (1, 0), (2, 0)] [] _)
        exact Sd.weak (by decide) (S_57)
      · refine sd_aload_n hC 20 dX10_pass_49 rfl (by decide) (by decide) (?_ : Sd X 50 [(0, 20), (1, 0)] [20] _)
        refine sd_iconst hC dX10_pass_50 ⟨by decide, by decide⟩ (?_ : Sd X 51 [(0, 20), (1, 0)] [0, 20] _)
        refine sd_inv0 (τ := []) (τr := [0]) (ci := 10) (q := (RX10, TX10, 45)) hC WG (M_X10_refused _) rfl rfl rfl rfl  rfl rfl wl_6_72 wl_6_74 wp_63 wl_1_10 wl_6_75 hd_X10_refused (by rw [e3]; decide) (by decide) dX10_pass_51 (?_ : Sd X 54 [(0, 20), (1, 0)] [0] _)
        exact sd_ireturn hC hT dX10_pass_54
    · refine sd_aload_n hC 20 dX10_pass_28 rfl (by decide) (by decide) (?_ : Sd X 29 [(0, 20), (1, 0)] [20] _)
      refine sd_iconst hC dX10_pass_29 ⟨by decide, by decide⟩ (?_ : Sd X 30 [(0, 20), (1, 0)] [0, 20] _)
      refine sd_inv0 (τ := []) (τr := [0]) (ci := 10) (q := (RX10, TX10, 45)) hC WG (M_X10_refused _) rfl rfl rfl rfl  rfl rfl wl_6_72 wl_6_74 wp_63 wl_1_10 wl_6_75 hd_X10_refused (by rw [e3]; decide) (by decide) dX10_pass_30 (?_ : Sd X 33 [(0, 20), (1, 0)] [0] _)
      exact sd_ireturn hC hT dX10_pass_33
  · refine sd_aload_n hC 20 dX10_pass_12 rfl (by decide) (by decide) (?_ : Sd X 13 [(0, 20), (1, 0)] [20] _)
    refine sd_iconst hC dX10_pass_13 ⟨by decide, by decide⟩ (?_ : Sd X 14 [(0, 20), (1, 0)] [0, 20] _)
    refine sd_inv0 (τ := []) (τr := [0]) (ci := 10) (q := (RX10, TX10, 45)) hC WG (M_X10_refused _) rfl rfl rfl rfl  rfl rfl wl_6_72 wl_6_74 wp_63 wl_1_10 wl_6_75 hd_X10_refused (by rw [e3]; decide) (by decide) dX10_pass_14 (?_ : Sd X 17 [(0, 20), (1, 0)] [0] _)
    exact sd_ireturn hC hT dX10_pass_17
theorem hd_X10_pay : yX10_pay.cls ≠ "java/lang/invoke/MethodHandle" ∧ yX10_pay.cls ≠ "java/lang/invoke/VarHandle" ∧ (parseMethodDescriptor yX10_pay.desc).map (fun d => d.parameters.length) = some 5 := by decide +kernel
set_option maxRecDepth 100000 in
set_option maxHeartbeats 4000000 in
theorem M_X10_pay (l : Launch) : Mt l yX10_pay (Cond.code yX10_pay cX10_pay 6 (some .int) :: WALL) { frames := 6, cells := 0, slots := 0, locals := 151 } [20, 0, 0, 0, 0, 0] (some 0) T_X10_pay := by
  refine Mt.mk (B := E_X10_pay) (by decide +kernel) (by decide) (fun _ _ _ hh => hh) ?_
  intro X Q e1 e2 e3 hC hN hT
  subst e1
  have hC : CF X cX10_pay RX10 WALL := hC
  have S_49 : Sd X 49 [(0, 20), (1, 0), (2, 0), (3, 0), (4, 0), (5, 0)] [0, 20] (B_X10_pay_49 Q) := by
    unfold B_X10_pay_49
    refine sd_inv0 (τ := []) (τr := [0]) (ci := 10) (q := (RX10, TX10, 45)) hC WG (M_X10_good _) rfl rfl rfl rfl  rfl rfl wl_7_171 wl_7_173 wp_105 wl_1_10 wl_7_174 hd_X10_good (by rw [e3]; decide) (by decide) dX10_pay_49 (?_ : Sd X 52 [(0, 20), (1, 0), (2, 0), (3, 0), (4, 0), (5, 0)] [0] _)
    exact sd_ireturn hC hT dX10_pay_52
  refine (?_ : Sd X 0 [(0, 20), (1, 0), (2, 0), (3, 0), (4, 0), (5, 0)] [] (E_X10_pay Q))
  unfold E_X10_pay
  refine sd_aload_n hC 20 dX10_pay_0 rfl (by decide) (by decide) (?_ : Sd X 1 [(0, 20), (1, 0), (2, 0), (3, 0), (4, 0), (5, 0)] [20] _)
  refine sd_iconst hC dX10_pay_1 ⟨by decide, by decide⟩ (?_ : Sd X 2 [(0, 20), (1, 0), (2, 0), (3, 0), (4, 0), (5, 0)] [0, 20] _)
  refine sd_put hC (ci := 10) (j := 0) (C := RX10) (T := TX10) (N := 45) tyX10 tyX10_ok nmX10 rfl rfl (by decide) in_X10 rfl rfl wl_5_164 dX10_pay_2 (?_ : Sd X 5 [(0, 20), (1, 0), (2, 0), (3, 0), (4, 0), (5, 0)] [] _)
  refine sd_aload_n hC 20 dX10_pay_5 rfl (by decide) (by decide) (?_ : Sd X 6 [(0, 20), (1, 0), (2, 0), (3, 0), (4, 0), (5, 0)] [20] _)
  refine sd_iload_n hC dX10_pay_6 rfl (by decide) (?_ : Sd X 7 [(0, 20), (1, 0), (2, 0), (3, 0), (4, 0), (5, 0)] [0, 20] _)
  refine sd_iload_n hC dX10_pay_7 rfl (by decide) (?_ : Sd X 8 [(0, 20), (1, 0), (2, 0), (3, 0), (4, 0), (5, 0)] [0, 0, 20] _)
  refine sd_iload_n hC dX10_pay_8 rfl (by decide) (?_ : Sd X 9 [(0, 20), (1, 0), (2, 0), (3, 0), (4, 0), (5, 0)] [0, 0, 0, 20] _)
  refine sd_iload hC dX10_pay_9 (by decide) (?_ : Sd X 11 [(0, 20), (1, 0), (2, 0), (3, 0), (4, 0), (5, 0)] [0, 0, 0, 0, 20] _)
  refine sd_iload hC dX10_pay_11 (by decide) (?_ : Sd X 13 [(0, 20), (1, 0), (2, 0), (3, 0), (4, 0), (5, 0)] [0, 0, 0, 0, 0, 20] _)
  refine sd_inv0 (τ := []) (τr := [0, 0, 0, 0, 0]) (ci := 10) (q := (RX10, TX10, 45)) hC WG (M_X10_areTold _) rfl rfl rfl rfl  rfl rfl wl_7_223 wl_7_225 wp_110 wl_1_10 wl_7_226 hd_X10_areTold (by rw [e3]; decide) (by decide) dX10_pay_13 (?_ : Sd X 16 [(0, 20), (1, 0), (2, 0), (3, 0), (4, 0), (5, 0)] [0] _)
  refine sd_if_ne (tgt := 25) hC dX10_pay_16 rfl (?_ : Sd X 25 [(0, 20), (1, 0), (2, 0), (3, 0), (4, 0), (5, 0)] [] _) (?_ : Sd X 19 [(0, 20), (1, 0), (2, 0), (3, 0), (4, 0), (5, 0)] [] _)
  · refine sd_aload_n hC 20 dX10_pay_25 rfl (by decide) (by decide) (?_ : Sd X 26 [(0, 20), (1, 0), (2, 0), (3, 0), (4, 0), (5, 0)] [20] _)
    refine sd_aload_n hC 20 dX10_pay_26 rfl (by decide) (by decide) (?_ : Sd X 27 [(0, 20), (1, 0), (2, 0), (3, 0), (4, 0), (5, 0)] [20, 20] _)
    refine sd_iload_n hC dX10_pay_27 rfl (by decide) (?_ : Sd X 28 [(0, 20), (1, 0), (2, 0), (3, 0), (4, 0), (5, 0)] [0, 20, 20] _)
    refine sd_iload_n hC dX10_pay_28 rfl (by decide) (?_ : Sd X 29 [(0, 20), (1, 0), (2, 0), (3, 0), (4, 0), (5, 0)] [0, 0, 20, 20] _)
    refine sd_iload_n hC dX10_pay_29 rfl (by decide) (?_ : Sd X 30 [(0, 20), (1, 0), (2, 0), (3, 0), (4, 0), (5, 0)] [0, 0, 0, 20, 20] _)
    refine sd_iload hC dX10_pay_30 (by decide) (?_ : Sd X 32 [(0, 20), (1, 0), (2, 0), (3, 0), (4, 0), (5, 0)] [0, 0, 0, 0, 20, 20] _)
    refine sd_iload hC dX10_pay_32 (by decide) (?_ : Sd X 34 [(0, 20), (1, 0), (2, 0), (3, 0), (4, 0), (5, 0)] [0, 0, 0, 0, 0, 20, 20] _)
    refine sd_inv0 (τ := [20]) (τr := [0, 0, 0, 0, 0]) (ci := 10) (q := (RX10, TX10, 45)) hC WG (M_X10_finds _) rfl rfl rfl rfl  rfl rfl wl_7_95 wl_7_97 wp_88 wl_1_10 wl_7_98 hd_X10_finds (by rw [e3]; decide) (by decide) dX10_pay_34 (?_ : Sd X 37 [(0, 20), (1, 0), (2, 0), (3, 0), (4, 0), (5, 0)] [0, 20] _)
    refine sd_if_eq (tgt := 47) hC dX10_pay_37 rfl (?_ : Sd X 47 [(0, 20), (1, 0), (2, 0), (3, 0), (4, 0), (5, 0)] [20] _) (?_ : Sd X 40 [(0, 20), (1, 0), (2, 0), (3, 0), (4, 0), (5, 0)] [20] _)
    · refine sd_bipush hC dX10_pay_47 (by decide) (?_ : Sd X 49 [(0, 20), (1, 0), (2, 0), (3, 0), (4, 0), (5, 0)] [0, 20] _)
      exact Sd.weak (by decide) (S_49)
    · refine sd_aload_n hC 20 dX10_pay_40 rfl (by decide) (by decide) (?_ : Sd X 41 [(0, 20), (1, 0), (2, 0), (3, 0), (4, 0), (5, 0)] [20, 20] _)
      refine sd_get hC (ci := 10) (j := 28) (C := RX10) (T := TX10) (N := 45) rfl rfl (by decide) in_X10 wl_5_192 dX10_pay_41 (?_ : Sd X 44 [(0, 20), (1, 0), (2, 0), (3, 0), (4, 0), (5, 0)] [0, 20] _)
      refine sd_goto (tgt := 49) hC dX10_pay_44 rfl (?_ : Sd X 49 [(0, 20), (1, 0), (2, 0), (3, 0), (4, 0), (5, 0)] [0, 20] _)
      exact Sd.weak (by decide) (S_49)
  · refine sd_aload_n hC 20 dX10_pay_19 rfl (by decide) (by decide) (?_ : Sd X 20 [(0, 20), (1, 0), (2, 0), (3, 0), (4, 0), (5, 0)] [20] _)
    refine sd_iconst hC dX10_pay_20 ⟨by decide, by decide⟩ (?_ : Sd X 21 [(0, 20), (1, 0), (2, 0), (3, 0), (4, 0), (5, 0)] [0, 20] _)
    refine sd_inv0 (τ := []) (τr := [0]) (ci := 10) (q := (RX10, TX10, 45)) hC WG (M_X10_refused _) rfl rfl rfl rfl  rfl rfl wl_6_72 wl_6_74 wp_63 wl_1_10 wl_6_75 hd_X10_refused (by rw [e3]; decide) (by decide) dX10_pay_21 (?_ : Sd X 24 [(0, 20), (1, 0), (2, 0), (3, 0), (4, 0), (5, 0)] [0] _)
    exact sd_ireturn hC hT dX10_pay_24
theorem hd_X10_payOf : yX10_payOf.cls ≠ "java/lang/invoke/MethodHandle" ∧ yX10_payOf.cls ≠ "java/lang/invoke/VarHandle" ∧ (parseMethodDescriptor yX10_payOf.desc).map (fun d => d.parameters.length) = some 1 := by decide +kernel
set_option maxRecDepth 100000 in
set_option maxHeartbeats 4000000 in
theorem M_X10_payOf (l : Launch) : Mt l yX10_payOf (Cond.code yX10_payOf cX10_payOf 2 (some .int) :: WALL) { frames := 7, cells := 0, slots := 0, locals := 172 } [20, 0] (some 0) T_X10_payOf := by
  refine Mt.mk (B := E_X10_payOf) (by decide +kernel) (by decide) (fun _ _ _ hh => hh) ?_
  intro X Q e1 e2 e3 hC hN hT
  subst e1
  have hC : CF X cX10_payOf RX10 WALL := hC
  have S_37 : Sd X 37 [(0, 20), (1, 0)] [0, 20] (B_X10_payOf_37 Q) := by
    unfold B_X10_payOf_37
    refine sd_inv0 (τ := []) (τr := [0]) (ci := 10) (q := (RX10, TX10, 45)) hC WG (M_X10_good _) rfl rfl rfl rfl  rfl rfl wl_7_171 wl_7_173 wp_105 wl_1_10 wl_7_174 hd_X10_good (by rw [e3]; decide) (by decide) dX10_payOf_37 (?_ : Sd X 40 [(0, 20), (1, 0)] [0] _)
    exact sd_ireturn hC hT dX10_payOf_40
  refine (?_ : Sd X 0 [(0, 20), (1, 0)] [] (E_X10_payOf Q))
  unfold E_X10_payOf
  refine sd_aload_n hC 20 dX10_payOf_0 rfl (by decide) (by decide) (?_ : Sd X 1 [(0, 20), (1, 0)] [20] _)
  refine sd_iconst hC dX10_payOf_1 ⟨by decide, by decide⟩ (?_ : Sd X 2 [(0, 20), (1, 0)] [0, 20] _)
  refine sd_put hC (ci := 10) (j := 0) (C := RX10) (T := TX10) (N := 45) tyX10 tyX10_ok nmX10 rfl rfl (by decide) in_X10 rfl rfl wl_5_164 dX10_payOf_2 (?_ : Sd X 5 [(0, 20), (1, 0)] [] _)
  refine sd_aload_n hC 20 dX10_payOf_5 rfl (by decide) (by decide) (?_ : Sd X 6 [(0, 20), (1, 0)] [20] _)
  refine sd_iload_n hC dX10_payOf_6 rfl (by decide) (?_ : Sd X 7 [(0, 20), (1, 0)] [0, 20] _)
  refine sd_inv0 (τ := []) (τr := [0]) (ci := 10) (q := (RX10, TX10, 45)) hC WG (M_X10_isOrder _) rfl rfl rfl rfl  rfl rfl wl_7_235 wl_7_237 wp_111 wl_1_10 wl_7_238 hd_X10_isOrder (by rw [e3]; decide) (by decide) dX10_payOf_7 (?_ : Sd X 10 [(0, 20), (1, 0)] [0] _)
  refine sd_if_ne (tgt := 19) hC dX10_payOf_10 rfl (?_ : Sd X 19 [(0, 20), (1, 0)] [] _) (?_ : Sd X 13 [(0, 20), (1, 0)] [] _)
  · refine sd_aload_n hC 20 dX10_payOf_19 rfl (by decide) (by decide) (?_ : Sd X 20 [(0, 20), (1, 0)] [20] _)
    refine sd_aload_n hC 20 dX10_payOf_20 rfl (by decide) (by decide) (?_ : Sd X 21 [(0, 20), (1, 0)] [20, 20] _)
    refine sd_iload_n hC dX10_payOf_21 rfl (by decide) (?_ : Sd X 22 [(0, 20), (1, 0)] [0, 20, 20] _)
    refine sd_inv0 (τ := [20]) (τr := [0]) (ci := 10) (q := (RX10, TX10, 45)) hC WG (M_X10_findsOrder _) rfl rfl rfl rfl  rfl rfl wl_7_91 wl_7_93 wp_87 wl_1_10 wl_7_94 hd_X10_findsOrder (by rw [e3]; decide) (by decide) dX10_payOf_22 (?_ : Sd X 25 [(0, 20), (1, 0)] [0, 20] _)
    refine sd_if_eq (tgt := 35) hC dX10_payOf_25 rfl (?_ : Sd X 35 [(0, 20), (1, 0)] [20] _) (?_ : Sd X 28 [(0, 20), (1, 0)] [20] _)
    · refine sd_bipush hC dX10_payOf_35 (by decide) (?_ : Sd X 37 [(0, 20), (1, 0)] [0, 20] _)
      exact Sd.weak (by decide) (S_37)
    · refine sd_aload_n hC 20 dX10_payOf_28 rfl (by decide) (by decide) (?_ : Sd X 29 [(0, 20), (1, 0)] [20, 20] _)
      refine sd_get hC (ci := 10) (j := 28) (C := RX10) (T := TX10) (N := 45) rfl rfl (by decide) in_X10 wl_5_192 dX10_payOf_29 (?_ : Sd X 32 [(0, 20), (1, 0)] [0, 20] _)
      refine sd_goto (tgt := 37) hC dX10_payOf_32 rfl (?_ : Sd X 37 [(0, 20), (1, 0)] [0, 20] _)
      exact Sd.weak (by decide) (S_37)
  · refine sd_aload_n hC 20 dX10_payOf_13 rfl (by decide) (by decide) (?_ : Sd X 14 [(0, 20), (1, 0)] [20] _)
    refine sd_iconst hC dX10_payOf_14 ⟨by decide, by decide⟩ (?_ : Sd X 15 [(0, 20), (1, 0)] [0, 20] _)
    refine sd_inv0 (τ := []) (τr := [0]) (ci := 10) (q := (RX10, TX10, 45)) hC WG (M_X10_refused _) rfl rfl rfl rfl  rfl rfl wl_6_72 wl_6_74 wp_63 wl_1_10 wl_6_75 hd_X10_refused (by rw [e3]; decide) (by decide) dX10_payOf_15 (?_ : Sd X 18 [(0, 20), (1, 0)] [0] _)
    exact sd_ireturn hC hT dX10_payOf_18
theorem hd_X10_ramNow : yX10_ramNow.cls ≠ "java/lang/invoke/MethodHandle" ∧ yX10_ramNow.cls ≠ "java/lang/invoke/VarHandle" ∧ (parseMethodDescriptor yX10_ramNow.desc).map (fun d => d.parameters.length) = some 3 := by decide +kernel
set_option maxRecDepth 100000 in
set_option maxHeartbeats 4000000 in
theorem M_X10_ramNow (l : Launch) : Mt l yX10_ramNow (Cond.code yX10_ramNow cX10_ramNow 7 (some .int) :: WALL) { frames := 4, cells := 0, slots := 0, locals := 90 } [20, 0, 0, 0] (some 0) T_X10_ramNow := by
  refine Mt.mk (B := E_X10_ramNow) (by decide +kernel) (by decide) (fun _ _ _ hh => hh) ?_
  intro X Q e1 e2 e3 hC hN hT
  subst e1
  have hC : CF X cX10_ramNow RX10 WALL := hC
  have S_108 : ∀ (k37 : tK), Sd X 37 [(0, 20), (1, 0), (2, 0), (3, 0), (4, 0), (5, 0)] [] k37 → Sd X 108 [(0, 20), (1, 0), (2, 0), (3, 0), (4, 0), (5, 0), (6, 0)] [0, 0] (B_X10_ramNow_108 Q k37) := by
    intro k37 h37
    unfold B_X10_ramNow_108
    refine sd_iadd hC dX10_ramNow_108 (?_ : Sd X 109 [(0, 20), (1, 0), (2, 0), (3, 0), (4, 0), (5, 0), (6, 0)] [0] _)
    refine sd_istore (Γ' := [(0, 20), (1, 0), (2, 0), (3, 0), (4, 0), (5, 0), (6, 0)]) hC dX10_ramNow_109 (by rw [e2]; decide) (by decide) (?_ : Sd X 111 [(0, 20), (1, 0), (2, 0), (3, 0), (4, 0), (5, 0), (6, 0)] [] _)
    refine sd_goto (tgt := 37) hC dX10_ramNow_111 rfl (?_ : Sd X 37 [(0, 20), (1, 0), (2, 0), (3, 0), (4, 0), (5, 0), (6, 0)] [] _)
    exact Sd.weak (by decide) h37
  have S_88 : ∀ (k37 : tK), Sd X 37 [(0, 20), (1, 0), (2, 0), (3, 0), (4, 0), (5, 0)] [] k37 → ∀ (k48 : tK), Sd X 48 [(0, 20), (1, 0), (2, 0), (3, 0), (4, 0), (5, 0), (6, 0)] [] k48 → Sd X 88 [(0, 20), (1, 0), (2, 0), (3, 0), (4, 0), (5, 0), (6, 0)] [0] (B_X10_ramNow_88 Q k37 k48) := by
    intro k37 h37 k48 h48
    unfold B_X10_ramNow_88
    refine sd_istore (Γ' := [(0, 20), (1, 0), (2, 0), (3, 0), (4, 0), (5, 0), (6, 0)]) hC dX10_ramNow_88 (by rw [e2]; decide) (by decide) (?_ : Sd X 90 [(0, 20), (1, 0), (2, 0), (3, 0), (4, 0), (5, 0), (6, 0)] [] _)
    refine sd_iinc (Γ' := [(0, 20), (1, 0), (2, 0), (3, 0), (4, 0), (5, 0), (6, 0)]) hC dX10_ramNow_90 (by decide) (by rw [e2]; decide) (by decide) (?_ : Sd X 93 [(0, 20), (1, 0), (2, 0), (3, 0), (4, 0), (5, 0), (6, 0)] [] _)
    refine sd_goto (tgt := 48) hC dX10_ramNow_93 rfl (?_ : Sd X 48 [(0, 20), (1, 0), (2, 0), (3, 0), (4, 0), (5, 0), (6, 0)] [] _)
    exact Sd.weak (by decide) h48
  have S_83 : ∀ (k37 : tK), Sd X 37 [(0, 20), (1, 0), (2, 0), (3, 0), (4, 0), (5, 0)] [] k37 → ∀ (k48 : tK), Sd X 48 [(0, 20), (1, 0), (2, 0), (3, 0), (4, 0), (5, 0), (6, 0)] [] k48 → Sd X 83 [(0, 20), (1, 0), (2, 0), (3, 0), (4, 0), (5, 0), (6, 0)] [] (B_X10_ramNow_83 Q k37 k48) := by
    intro k37 h37 k48 h48
    unfold B_X10_ramNow_83
    refine sd_iconst hC dX10_ramNow_83 ⟨by decide, by decide⟩ (?_ : Sd X 84 [(0, 20), (1, 0), (2, 0), (3, 0), (4, 0), (5, 0), (6, 0)] [0] _)
    refine sd_goto (tgt := 88) hC dX10_ramNow_84 rfl (?_ : Sd X 88 [(0, 20), (1, 0), (2, 0), (3, 0), (4, 0), (5, 0), (6, 0)] [0] _)
    exact Sd.weak (by decide) (S_88 k37 h37 k48 h48)
  have S_87 : ∀ (k37 : tK), Sd X 37 [(0, 20), (1, 0), (2, 0), (3, 0), (4, 0), (5, 0)] [] k37 → ∀ (k48 : tK), Sd X 48 [(0, 20), (1, 0), (2, 0), (3, 0), (4, 0), (5, 0), (6, 0)] [] k48 → Sd X 87 [(0, 20), (1, 0), (2, 0), (3, 0), (4, 0), (5, 0), (6, 0)] [] (B_X10_ramNow_87 Q k37 k48) := by
    intro k37 h37 k48 h48
    unfold B_X10_ramNow_87
    refine sd_iconst hC dX10_ramNow_87 ⟨by decide, by decide⟩ (?_ : Sd X 88 [(0, 20), (1, 0), (2, 0), (3, 0), (4, 0), (5, 0), (6, 0)] [0] _)
    exact Sd.weak (by decide) (S_88 k37 h37 k48 h48)
  have S_48 : ∀ (k37 : tK), Sd X 37 [(0, 20), (1, 0), (2, 0), (3, 0), (4, 0), (5, 0)] [] k37 → Sd X 48 [(0, 20), (1, 0), (2, 0), (3, 0), (4, 0), (5, 0), (6, 0)] [] (L_X10_ramNow_48 Q k37) := by
    intro k37 h37
    unfold L_X10_ramNow_48
    refine Sd.loop (fun k48 h48 => ?_)
    refine sd_iload hC dX10_ramNow_48 (by decide) (?_ : Sd X 50 [(0, 20), (1, 0), (2, 0), (3, 0), (4, 0), (5, 0), (6, 0)] [0] _)
    refine sd_aload_n hC 20 dX10_ramNow_50 rfl (by decide) (by decide) (?_ : Sd X 51 [(0, 20), (1, 0), (2, 0), (3, 0), (4, 0), (5, 0), (6, 0)] [20, 0] _)
    refine sd_get hC (ci := 10) (j := 17) (C := RX10) (T := TX10) (N := 45) rfl rfl (by decide) in_X10 wl_5_181 dX10_ramNow_51 (?_ : Sd X 54 [(0, 20), (1, 0), (2, 0), (3, 0), (4, 0), (5, 0), (6, 0)] [0, 0] _)
    refine sd_icmp_ge (tgt := 96) hC dX10_ramNow_54 rfl (?_ : Sd X 96 [(0, 20), (1, 0), (2, 0), (3, 0), (4, 0), (5, 0), (6, 0)] [] _) (?_ : Sd X 57 [(0, 20), (1, 0), (2, 0), (3, 0), (4, 0), (5, 0), (6, 0)] [] _)
    · refine sd_iload hC dX10_ramNow_96 (by decide) (?_ : Sd X 98 [(0, 20), (1, 0), (2, 0), (3, 0), (4, 0), (5, 0), (6, 0)] [0] _)
      refine sd_iload hC dX10_ramNow_98 (by decide) (?_ : Sd X 100 [(0, 20), (1, 0), (2, 0), (3, 0), (4, 0), (5, 0), (6, 0)] [0, 0] _)
      refine sd_if_eq (tgt := 107) hC dX10_ramNow_100 rfl (?_ : Sd X 107 [(0, 20), (1, 0), (2, 0), (3, 0), (4, 0), (5, 0), (6, 0)] [0] _) (?_ : Sd X 103 [(0, 20), (1, 0), (2, 0), (3, 0), (4, 0), (5, 0), (6, 0)] [0] _)
      · refine sd_iconst hC dX10_ramNow_107 ⟨by decide, by decide⟩ (?_ : Sd X 108 [(0, 20), (1, 0), (2, 0), (3, 0), (4, 0), (5, 0), (6, 0)] [0, 0] _)
        exact Sd.weak (by decide) (S_108 k37 h37)
      · refine sd_iconst hC dX10_ramNow_103 ⟨by decide, by decide⟩ (?_ : Sd X 104 [(0, 20), (1, 0), (2, 0), (3, 0), (4, 0), (5, 0), (6, 0)] [0, 0] _)
        refine sd_goto (tgt := 108) hC dX10_ramNow_104 rfl (?_ : Sd X 108 [(0, 20), (1, 0), (2, 0), (3, 0), (4, 0), (5, 0), (6, 0)] [0, 0] _)
        exact Sd.weak (by decide) (S_108 k37 h37)
    · refine sd_iload hC dX10_ramNow_57 (by decide) (?_ : Sd X 59 [(0, 20), (1, 0), (2, 0), (3, 0), (4, 0), (5, 0), (6, 0)] [0] _)
      refine sd_if_ne (tgt := 83) hC dX10_ramNow_59 rfl (?_ : Sd X 83 [(0, 20), (1, 0), (2, 0), (3, 0), (4, 0), (5, 0), (6, 0)] [] _) (?_ : Sd X 62 [(0, 20), (1, 0), (2, 0), (3, 0), (4, 0), (5, 0), (6, 0)] [] _)
      · exact Sd.weak (by decide) (S_83 k37 h37 k48 h48)
      · refine sd_aload_n hC 20 dX10_ramNow_62 rfl (by decide) (by decide) (?_ : Sd X 63 [(0, 20), (1, 0), (2, 0), (3, 0), (4, 0), (5, 0), (6, 0)] [20] _)
        refine sd_iload hC dX10_ramNow_63 (by decide) (?_ : Sd X 65 [(0, 20), (1, 0), (2, 0), (3, 0), (4, 0), (5, 0), (6, 0)] [0, 20] _)
        refine sd_iconst hC dX10_ramNow_65 ⟨by decide, by decide⟩ (?_ : Sd X 66 [(0, 20), (1, 0), (2, 0), (3, 0), (4, 0), (5, 0), (6, 0)] [0, 0, 20] _)
        refine sd_inv0 (τ := []) (τr := [0, 0]) (ci := 10) (q := (RX10, TX10, 45)) hC WG (M_X10_of _) rfl rfl rfl rfl  rfl rfl wl_7_131 wl_7_133 wp_96 wl_1_10 wl_7_134 hd_X10_of (by rw [e3]; decide) (by decide) dX10_ramNow_66 (?_ : Sd X 69 [(0, 20), (1, 0), (2, 0), (3, 0), (4, 0), (5, 0), (6, 0)] [0] _)
        refine sd_iload hC dX10_ramNow_69 (by decide) (?_ : Sd X 71 [(0, 20), (1, 0), (2, 0), (3, 0), (4, 0), (5, 0), (6, 0)] [0, 0] _)
        refine sd_icmp_ne (tgt := 87) hC dX10_ramNow_71 rfl (?_ : Sd X 87 [(0, 20), (1, 0), (2, 0), (3, 0), (4, 0), (5, 0), (6, 0)] [] _) (?_ : Sd X 74 [(0, 20), (1, 0), (2, 0), (3, 0), (4, 0), (5, 0), (6, 0)] [] _)
        · exact Sd.weak (by decide) (S_87 k37 h37 k48 h48)
        · refine sd_aload_n hC 20 dX10_ramNow_74 rfl (by decide) (by decide) (?_ : Sd X 75 [(0, 20), (1, 0), (2, 0), (3, 0), (4, 0), (5, 0), (6, 0)] [20] _)
          refine sd_iload hC dX10_ramNow_75 (by decide) (?_ : Sd X 77 [(0, 20), (1, 0), (2, 0), (3, 0), (4, 0), (5, 0), (6, 0)] [0, 20] _)
          refine sd_inv0 (τ := []) (τr := [0]) (ci := 10) (q := (RX10, TX10, 45)) hC WG (M_X10_goesThrough _) rfl rfl rfl rfl  rfl rfl wl_7_135 wl_7_137 wp_97 wl_1_10 wl_7_138 hd_X10_goesThrough (by rw [e3]; decide) (by decide) dX10_ramNow_77 (?_ : Sd X 80 [(0, 20), (1, 0), (2, 0), (3, 0), (4, 0), (5, 0), (6, 0)] [0] _)
          refine sd_if_eq (tgt := 87) hC dX10_ramNow_80 rfl (?_ : Sd X 87 [(0, 20), (1, 0), (2, 0), (3, 0), (4, 0), (5, 0), (6, 0)] [] _) (?_ : Sd X 83 [(0, 20), (1, 0), (2, 0), (3, 0), (4, 0), (5, 0), (6, 0)] [] _)
          · exact Sd.weak (by decide) (S_87 k37 h37 k48 h48)
          · exact Sd.weak (by decide) (S_83 k37 h37 k48 h48)
  have S_37 : Sd X 37 [(0, 20), (1, 0), (2, 0), (3, 0), (4, 0), (5, 0)] [] (L_X10_ramNow_37 Q) := by
    unfold L_X10_ramNow_37
    refine Sd.loop (fun k37 h37 => ?_)
    refine sd_iload hC dX10_ramNow_37 (by decide) (?_ : Sd X 39 [(0, 20), (1, 0), (2, 0), (3, 0), (4, 0), (5, 0)] [0] _)
    refine sd_if_eq (tgt := 114) hC dX10_ramNow_39 rfl (?_ : Sd X 114 [(0, 20), (1, 0), (2, 0), (3, 0), (4, 0), (5, 0)] [] _) (?_ : Sd X 42 [(0, 20), (1, 0), (2, 0), (3, 0), (4, 0), (5, 0)] [] _)
    · refine sd_iload hC dX10_ramNow_114 (by decide) (?_ : Sd X 116 [(0, 20), (1, 0), (2, 0), (3, 0), (4, 0), (5, 0)] [0] _)
      exact sd_ireturn hC hT dX10_ramNow_116
    · refine sd_iconst hC dX10_ramNow_42 ⟨by decide, by decide⟩ (?_ : Sd X 43 [(0, 20), (1, 0), (2, 0), (3, 0), (4, 0), (5, 0)] [0] _)
      refine sd_istore (Γ' := [(0, 20), (1, 0), (2, 0), (3, 0), (4, 0), (5, 0)]) hC dX10_ramNow_43 (by rw [e2]; decide) (by decide) (?_ : Sd X 45 [(0, 20), (1, 0), (2, 0), (3, 0), (4, 0), (5, 0)] [] _)
      refine sd_iconst hC dX10_ramNow_45 ⟨by decide, by decide⟩ (?_ : Sd X 46 [(0, 20), (1, 0), (2, 0), (3, 0), (4, 0), (5, 0)] [0] _)
      refine sd_istore (Γ' := [(0, 20), (1, 0), (2, 0), (3, 0), (4, 0), (5, 0), (6, 0)]) hC dX10_ramNow_46 (by rw [e2]; decide) (by decide) (?_ : Sd X 48 [(0, 20), (1, 0), (2, 0), (3, 0), (4, 0), (5, 0), (6, 0)] [] _)
      exact Sd.weak (by decide) (S_48 k37 h37)
  refine (?_ : Sd X 0 [(0, 20), (1, 0), (2, 0), (3, 0)] [] (E_X10_ramNow Q))
  unfold E_X10_ramNow
  refine sd_aload_n hC 20 dX10_ramNow_0 rfl (by decide) (by decide) (?_ : Sd X 1 [(0, 20), (1, 0), (2, 0), (3, 0)] [20] _)
  refine sd_iload_n hC dX10_ramNow_1 rfl (by decide) (?_ : Sd X 2 [(0, 20), (1, 0), (2, 0), (3, 0)] [0, 20] _)
  refine sd_put hC (ci := 10) (j := 18) (C := RX10) (T := TX10) (N := 45) tyX10 tyX10_ok nmX10 rfl rfl (by decide) in_X10 rfl rfl wl_5_182 dX10_ramNow_2 (?_ : Sd X 5 [(0, 20), (1, 0), (2, 0), (3, 0)] [] _)
  refine sd_aload_n hC 20 dX10_ramNow_5 rfl (by decide) (by decide) (?_ : Sd X 6 [(0, 20), (1, 0), (2, 0), (3, 0)] [20] _)
  refine sd_iload_n hC dX10_ramNow_6 rfl (by decide) (?_ : Sd X 7 [(0, 20), (1, 0), (2, 0), (3, 0)] [0, 20] _)
  refine sd_put hC (ci := 10) (j := 19) (C := RX10) (T := TX10) (N := 45) tyX10 tyX10_ok nmX10 rfl rfl (by decide) in_X10 rfl rfl wl_5_183 dX10_ramNow_7 (?_ : Sd X 10 [(0, 20), (1, 0), (2, 0), (3, 0)] [] _)
  refine sd_aload_n hC 20 dX10_ramNow_10 rfl (by decide) (by decide) (?_ : Sd X 11 [(0, 20), (1, 0), (2, 0), (3, 0)] [20] _)
  refine sd_iload_n hC dX10_ramNow_11 rfl (by decide) (?_ : Sd X 12 [(0, 20), (1, 0), (2, 0), (3, 0)] [0, 20] _)
  refine sd_put hC (ci := 10) (j := 20) (C := RX10) (T := TX10) (N := 45) tyX10 tyX10_ok nmX10 rfl rfl (by decide) in_X10 rfl rfl wl_5_184 dX10_ramNow_12 (?_ : Sd X 15 [(0, 20), (1, 0), (2, 0), (3, 0)] [] _)
  refine sd_aload_n hC 20 dX10_ramNow_15 rfl (by decide) (by decide) (?_ : Sd X 16 [(0, 20), (1, 0), (2, 0), (3, 0)] [20] _)
  refine sd_iconst hC dX10_ramNow_16 ⟨by decide, by decide⟩ (?_ : Sd X 17 [(0, 20), (1, 0), (2, 0), (3, 0)] [0, 20] _)
  refine sd_put hC (ci := 10) (j := 22) (C := RX10) (T := TX10) (N := 45) tyX10 tyX10_ok nmX10 rfl rfl (by decide) in_X10 rfl rfl wl_5_186 dX10_ramNow_17 (?_ : Sd X 20 [(0, 20), (1, 0), (2, 0), (3, 0)] [] _)
  refine sd_aload_n hC 20 dX10_ramNow_20 rfl (by decide) (by decide) (?_ : Sd X 21 [(0, 20), (1, 0), (2, 0), (3, 0)] [20] _)
  refine sd_iconst hC dX10_ramNow_21 ⟨by decide, by decide⟩ (?_ : Sd X 22 [(0, 20), (1, 0), (2, 0), (3, 0)] [0, 20] _)
  refine sd_inv0 (τ := []) (τr := [0]) (ci := 10) (q := (RX10, TX10, 45)) hC WG (M_X10_fitsRing _) rfl rfl rfl rfl  rfl rfl wl_7_118 wl_7_120 wp_93 wl_1_10 wl_7_121 hd_X10_fitsRing (by rw [e3]; decide) (by decide) dX10_ramNow_22 (?_ : Sd X 25 [(0, 20), (1, 0), (2, 0), (3, 0)] [0] _)
  refine sd_if_ne (tgt := 31) hC dX10_ramNow_25 rfl (?_ : Sd X 31 [(0, 20), (1, 0), (2, 0), (3, 0)] [] _) (?_ : Sd X 28 [(0, 20), (1, 0), (2, 0), (3, 0)] [] _)
  · refine sd_iconst hC dX10_ramNow_31 ⟨by decide, by decide⟩ (?_ : Sd X 32 [(0, 20), (1, 0), (2, 0), (3, 0)] [0] _)
    refine sd_istore (Γ' := [(0, 20), (1, 0), (2, 0), (3, 0), (4, 0)]) hC dX10_ramNow_32 (by rw [e2]; decide) (by decide) (?_ : Sd X 34 [(0, 20), (1, 0), (2, 0), (3, 0), (4, 0)] [] _)
    refine sd_iconst hC dX10_ramNow_34 ⟨by decide, by decide⟩ (?_ : Sd X 35 [(0, 20), (1, 0), (2, 0), (3, 0), (4, 0)] [0] _)
    refine sd_istore (Γ' := [(0, 20), (1, 0), (2, 0), (3, 0), (4, 0), (5, 0)]) hC dX10_ramNow_35 (by rw [e2]; decide) (by decide) (?_ : Sd X 37 [(0, 20), (1, 0), (2, 0), (3, 0), (4, 0), (5, 0)] [] _)
    exact Sd.weak (by decide) (S_37)
  · refine sd_bipush hC dX10_ramNow_28 (by decide) (?_ : Sd X 30 [(0, 20), (1, 0), (2, 0), (3, 0)] [0] _)
    exact sd_ireturn hC hT dX10_ramNow_30
theorem wl_8_134 : Cond.methodLink RX10 517 yX10_ramNow ∈ WALL := tb8 (List.mem_of_getElem? (i := 134) rfl) rfl
theorem wl_8_136 : Cond.instanceMethod yX10_ramNow ∈ WALL := tb8 (List.mem_of_getElem? (i := 136) rfl) rfl
theorem wp_127 : Cond.selects RX10 yX10_ramNow yX10_ramNow ∈ WALL := tbS (List.mem_of_getElem? (i := 127) rfl)
theorem wl_8_137 : Cond.code yX10_ramNow cX10_ramNow 7 (some .int) ∈ WALL := tb8 (List.mem_of_getElem? (i := 137) rfl) rfl
theorem hd_X10_ram : yX10_ram.cls ≠ "java/lang/invoke/MethodHandle" ∧ yX10_ram.cls ≠ "java/lang/invoke/VarHandle" ∧ (parseMethodDescriptor yX10_ram.desc).map (fun d => d.parameters.length) = some 3 := by decide +kernel
set_option maxRecDepth 100000 in
set_option maxHeartbeats 4000000 in
theorem M_X10_ram (l : Launch) : Mt l yX10_ram (Cond.code yX10_ram cX10_ram 4 (some .int) :: WALL) { frames := 5, cells := 0, slots := 0, locals := 116 } [20, 0, 0, 0] (some 0) T_X10_ram := by
  refine Mt.mk (B := E_X10_ram) (by decide +kernel) (by decide) (fun _ _ _ hh => hh) ?_
  intro X Q e1 e2 e3 hC hN hT
  subst e1
  have hC : CF X cX10_ram RX10 WALL := hC
  have S_58 : Sd X 58 [(0, 20), (1, 0), (2, 0), (3, 0)] [0] (B_X10_ram_58 Q) := by
    unfold B_X10_ram_58
    exact sd_ireturn hC hT dX10_ram_58
  have S_53 : Sd X 53 [(0, 20), (1, 0), (2, 0), (3, 0)] [] (B_X10_ram_53 Q) := by
    unfold B_X10_ram_53
    refine sd_aload_n hC 20 dX10_ram_53 rfl (by decide) (by decide) (?_ : Sd X 54 [(0, 20), (1, 0), (2, 0), (3, 0)] [20] _)
    refine sd_iconst hC dX10_ram_54 ⟨by decide, by decide⟩ (?_ : Sd X 55 [(0, 20), (1, 0), (2, 0), (3, 0)] [0, 20] _)
    refine sd_inv0 (τ := []) (τr := [0]) (ci := 10) (q := (RX10, TX10, 45)) hC WG (M_X10_refused _) rfl rfl rfl rfl  rfl rfl wl_6_72 wl_6_74 wp_63 wl_1_10 wl_6_75 hd_X10_refused (by rw [e3]; decide) (by decide) dX10_ram_55 (?_ : Sd X 58 [(0, 20), (1, 0), (2, 0), (3, 0)] [0] _)
    exact Sd.weak (by decide) (S_58)
  refine (?_ : Sd X 0 [(0, 20), (1, 0), (2, 0), (3, 0)] [] (E_X10_ram Q))
  unfold E_X10_ram
  refine sd_aload_n hC 20 dX10_ram_0 rfl (by decide) (by decide) (?_ : Sd X 1 [(0, 20), (1, 0), (2, 0), (3, 0)] [20] _)
  refine sd_iconst hC dX10_ram_1 ⟨by decide, by decide⟩ (?_ : Sd X 2 [(0, 20), (1, 0), (2, 0), (3, 0)] [0, 20] _)
  refine sd_put hC (ci := 10) (j := 0) (C := RX10) (T := TX10) (N := 45) tyX10 tyX10_ok nmX10 rfl rfl (by decide) in_X10 rfl rfl wl_5_164 dX10_ram_2 (?_ : Sd X 5 [(0, 20), (1, 0), (2, 0), (3, 0)] [] _)
  refine sd_aload_n hC 20 dX10_ram_5 rfl (by decide) (by decide) (?_ : Sd X 6 [(0, 20), (1, 0), (2, 0), (3, 0)] [20] _)
  refine sd_get hC (ci := 10) (j := 3) (C := RX10) (T := TX10) (N := 45) rfl rfl (by decide) in_X10 wl_5_167 dX10_ram_6 (?_ : Sd X 9 [(0, 20), (1, 0), (2, 0), (3, 0)] [19] _)
  refine sd_ifnonnull (tgt := 18) hC (by decide) dX10_ram_9 rfl (?_ : Sd X 18 [(0, 20), (1, 0), (2, 0), (3, 0)] [] _) (?_ : Sd X 12 [(0, 20), (1, 0), (2, 0), (3, 0)] [] _)
  · refine sd_iload_n hC dX10_ram_18 rfl (by decide) (?_ : Sd X 19 [(0, 20), (1, 0), (2, 0), (3, 0)] [0] _)
    refine sd_invs (τ := []) (τs := [0]) hC false "" WG (M_X10_isSize _) rfl rfl rfl rfl wl_8_119 wl_8_120 wl_1_10 wl_8_121 hd_X10_isSize (by rw [e3]; decide) (by decide) dX10_ram_19 (?_ : Sd X 22 [(0, 20), (1, 0), (2, 0), (3, 0)] [0] _)
    refine sd_if_eq (tgt := 53) hC dX10_ram_22 rfl (?_ : Sd X 53 [(0, 20), (1, 0), (2, 0), (3, 0)] [] _) (?_ : Sd X 25 [(0, 20), (1, 0), (2, 0), (3, 0)] [] _)
    · exact Sd.weak (by decide) (S_53)
    · refine sd_iload_n hC dX10_ram_25 rfl (by decide) (?_ : Sd X 26 [(0, 20), (1, 0), (2, 0), (3, 0)] [0] _)
      refine sd_invs (τ := []) (τs := [0]) hC false "" WG (M_X10_isSize _) rfl rfl rfl rfl wl_8_119 wl_8_120 wl_1_10 wl_8_121 hd_X10_isSize (by rw [e3]; decide) (by decide) dX10_ram_26 (?_ : Sd X 29 [(0, 20), (1, 0), (2, 0), (3, 0)] [0] _)
      refine sd_if_eq (tgt := 53) hC dX10_ram_29 rfl (?_ : Sd X 53 [(0, 20), (1, 0), (2, 0), (3, 0)] [] _) (?_ : Sd X 32 [(0, 20), (1, 0), (2, 0), (3, 0)] [] _)
      · exact Sd.weak (by decide) (S_53)
      · refine sd_iload_n hC dX10_ram_32 rfl (by decide) (?_ : Sd X 33 [(0, 20), (1, 0), (2, 0), (3, 0)] [0] _)
        refine sd_invs (τ := []) (τs := [0]) hC false "" WG (M_X10_isSize _) rfl rfl rfl rfl wl_8_119 wl_8_120 wl_1_10 wl_8_121 hd_X10_isSize (by rw [e3]; decide) (by decide) dX10_ram_33 (?_ : Sd X 36 [(0, 20), (1, 0), (2, 0), (3, 0)] [0] _)
        refine sd_if_eq (tgt := 53) hC dX10_ram_36 rfl (?_ : Sd X 53 [(0, 20), (1, 0), (2, 0), (3, 0)] [] _) (?_ : Sd X 39 [(0, 20), (1, 0), (2, 0), (3, 0)] [] _)
        · exact Sd.weak (by decide) (S_53)
        · refine sd_aload_n hC 20 dX10_ram_39 rfl (by decide) (by decide) (?_ : Sd X 40 [(0, 20), (1, 0), (2, 0), (3, 0)] [20] _)
          refine sd_aload_n hC 20 dX10_ram_40 rfl (by decide) (by decide) (?_ : Sd X 41 [(0, 20), (1, 0), (2, 0), (3, 0)] [20, 20] _)
          refine sd_iload_n hC dX10_ram_41 rfl (by decide) (?_ : Sd X 42 [(0, 20), (1, 0), (2, 0), (3, 0)] [0, 20, 20] _)
          refine sd_iload_n hC dX10_ram_42 rfl (by decide) (?_ : Sd X 43 [(0, 20), (1, 0), (2, 0), (3, 0)] [0, 0, 20, 20] _)
          refine sd_iload_n hC dX10_ram_43 rfl (by decide) (?_ : Sd X 44 [(0, 20), (1, 0), (2, 0), (3, 0)] [0, 0, 0, 20, 20] _)
          refine sd_inv0 (τ := [20]) (τr := [0, 0, 0]) (ci := 10) (q := (RX10, TX10, 45)) hC WG (M_X10_ramNow _) rfl rfl rfl rfl  rfl rfl wl_8_134 wl_8_136 wp_127 wl_1_10 wl_8_137 hd_X10_ramNow (by rw [e3]; decide) (by decide) dX10_ram_44 (?_ : Sd X 47 [(0, 20), (1, 0), (2, 0), (3, 0)] [0, 20] _)
          refine sd_inv0 (τ := []) (τr := [0]) (ci := 10) (q := (RX10, TX10, 45)) hC WG (M_X10_good _) rfl rfl rfl rfl  rfl rfl wl_7_171 wl_7_173 wp_105 wl_1_10 wl_7_174 hd_X10_good (by rw [e3]; decide) (by decide) dX10_ram_47 (?_ : Sd X 50 [(0, 20), (1, 0), (2, 0), (3, 0)] [0] _)
          refine sd_goto (tgt := 58) hC dX10_ram_50 rfl (?_ : Sd X 58 [(0, 20), (1, 0), (2, 0), (3, 0)] [0] _)
          exact Sd.weak (by decide) (S_58)
  · refine sd_aload_n hC 20 dX10_ram_12 rfl (by decide) (by decide) (?_ : Sd X 13 [(0, 20), (1, 0), (2, 0), (3, 0)] [20] _)
    refine sd_iconst hC dX10_ram_13 ⟨by decide, by decide⟩ (?_ : Sd X 14 [(0, 20), (1, 0), (2, 0), (3, 0)] [0, 20] _)
    refine sd_inv0 (τ := []) (τr := [0]) (ci := 10) (q := (RX10, TX10, 45)) hC WG (M_X10_refused _) rfl rfl rfl rfl  rfl rfl wl_6_72 wl_6_74 wp_63 wl_1_10 wl_6_75 hd_X10_refused (by rw [e3]; decide) (by decide) dX10_ram_14 (?_ : Sd X 17 [(0, 20), (1, 0), (2, 0), (3, 0)] [0] _)
    exact sd_ireturn hC hT dX10_ram_17
theorem hd_X10_ramBy : yX10_ramBy.cls ≠ "java/lang/invoke/MethodHandle" ∧ yX10_ramBy.cls ≠ "java/lang/invoke/VarHandle" ∧ (parseMethodDescriptor yX10_ramBy.desc).map (fun d => d.parameters.length) = some 5 := by decide +kernel
set_option maxRecDepth 100000 in
set_option maxHeartbeats 4000000 in
theorem M_X10_ramBy (l : Launch) : Mt l yX10_ramBy (Cond.code yX10_ramBy cX10_ramBy 9 (some .int) :: WALL) { frames := 5, cells := 0, slots := 0, locals := 116 } [20, 0, 0, 0, 0, 0] (some 0) T_X10_ramBy := by
  refine Mt.mk (B := E_X10_ramBy) (by decide +kernel) (by decide) (fun _ _ _ hh => hh) ?_
  intro X Q e1 e2 e3 hC hN hT
  subst e1
  have hC : CF X cX10_ramBy RX10 WALL := hC
  have S_49 : Sd X 49 [(0, 20), (1, 0), (2, 0), (3, 0), (4, 0), (5, 0)] [] (B_X10_ramBy_49 Q) := by
    unfold B_X10_ramBy_49
    refine sd_aload_n hC 20 dX10_ramBy_49 rfl (by decide) (by decide) (?_ : Sd X 50 [(0, 20), (1, 0), (2, 0), (3, 0), (4, 0), (5, 0)] [20] _)
    refine sd_iconst hC dX10_ramBy_50 ⟨by decide, by decide⟩ (?_ : Sd X 51 [(0, 20), (1, 0), (2, 0), (3, 0), (4, 0), (5, 0)] [0, 20] _)
    refine sd_inv0 (τ := []) (τr := [0]) (ci := 10) (q := (RX10, TX10, 45)) hC WG (M_X10_refused _) rfl rfl rfl rfl  rfl rfl wl_6_72 wl_6_74 wp_63 wl_1_10 wl_6_75 hd_X10_refused (by rw [e3]; decide) (by decide) dX10_ramBy_51 (?_ : Sd X 54 [(0, 20), (1, 0), (2, 0), (3, 0), (4, 0), (5, 0)] [0] _)
    exact sd_ireturn hC hT dX10_ramBy_54
  have S_92 : Sd X 92 [(0, 20), (1, 0), (2, 0), (3, 0), (4, 0), (5, 0), (6, 0), (7, 0)] [0, 0, 100] (B_X10_ramBy_92 Q) := by
    unfold B_X10_ramBy_92
    refine sd_iastore hC dX10_ramBy_92 (?_ : Sd X 93 [(0, 20), (1, 0), (2, 0), (3, 0), (4, 0), (5, 0), (6, 0), (7, 0)] [] _)
    refine sd_aload_n hC 20 dX10_ramBy_93 rfl (by decide) (by decide) (?_ : Sd X 94 [(0, 20), (1, 0), (2, 0), (3, 0), (4, 0), (5, 0), (6, 0), (7, 0)] [20] _)
    refine sd_iload_n hC dX10_ramBy_94 rfl (by decide) (?_ : Sd X 95 [(0, 20), (1, 0), (2, 0), (3, 0), (4, 0), (5, 0), (6, 0), (7, 0)] [0, 20] _)
    refine sd_iload_n hC dX10_ramBy_95 rfl (by decide) (?_ : Sd X 96 [(0, 20), (1, 0), (2, 0), (3, 0), (4, 0), (5, 0), (6, 0), (7, 0)] [0, 0, 20] _)
    refine sd_iload hC dX10_ramBy_96 (by decide) (?_ : Sd X 98 [(0, 20), (1, 0), (2, 0), (3, 0), (4, 0), (5, 0), (6, 0), (7, 0)] [0, 0, 0, 20] _)
    refine sd_inv0 (τ := []) (τr := [0, 0, 0]) (ci := 10) (q := (RX10, TX10, 45)) hC WG (M_X10_ramNow _) rfl rfl rfl rfl  rfl rfl wl_8_134 wl_8_136 wp_127 wl_1_10 wl_8_137 hd_X10_ramNow (by rw [e3]; decide) (by decide) dX10_ramBy_98 (?_ : Sd X 101 [(0, 20), (1, 0), (2, 0), (3, 0), (4, 0), (5, 0), (6, 0), (7, 0)] [0] _)
    refine sd_istore (Γ' := [(0, 20), (1, 0), (2, 0), (3, 0), (4, 0), (5, 0), (6, 0), (7, 0), (8, 0)]) hC dX10_ramBy_101 (by rw [e2]; decide) (by decide) (?_ : Sd X 103 [(0, 20), (1, 0), (2, 0), (3, 0), (4, 0), (5, 0), (6, 0), (7, 0), (8, 0)] [] _)
    refine sd_aload_n hC 20 dX10_ramBy_103 rfl (by decide) (by decide) (?_ : Sd X 104 [(0, 20), (1, 0), (2, 0), (3, 0), (4, 0), (5, 0), (6, 0), (7, 0), (8, 0)] [20] _)
    refine sd_get hC (ci := 10) (j := 16) (C := RX10) (T := TX10) (N := 45) rfl rfl (by decide) in_X10 wl_5_180 dX10_ramBy_104 (?_ : Sd X 107 [(0, 20), (1, 0), (2, 0), (3, 0), (4, 0), (5, 0), (6, 0), (7, 0), (8, 0)] [100] _)
    refine sd_iload hC dX10_ramBy_107 (by decide) (?_ : Sd X 109 [(0, 20), (1, 0), (2, 0), (3, 0), (4, 0), (5, 0), (6, 0), (7, 0), (8, 0)] [0, 100] _)
    refine sd_iload hC dX10_ramBy_109 (by decide) (?_ : Sd X 111 [(0, 20), (1, 0), (2, 0), (3, 0), (4, 0), (5, 0), (6, 0), (7, 0), (8, 0)] [0, 0, 100] _)
    refine sd_iastore hC dX10_ramBy_111 (?_ : Sd X 112 [(0, 20), (1, 0), (2, 0), (3, 0), (4, 0), (5, 0), (6, 0), (7, 0), (8, 0)] [] _)
    refine sd_aload_n hC 20 dX10_ramBy_112 rfl (by decide) (by decide) (?_ : Sd X 113 [(0, 20), (1, 0), (2, 0), (3, 0), (4, 0), (5, 0), (6, 0), (7, 0), (8, 0)] [20] _)
    refine sd_iload hC dX10_ramBy_113 (by decide) (?_ : Sd X 115 [(0, 20), (1, 0), (2, 0), (3, 0), (4, 0), (5, 0), (6, 0), (7, 0), (8, 0)] [0, 20] _)
    refine sd_inv0 (τ := []) (τr := [0]) (ci := 10) (q := (RX10, TX10, 45)) hC WG (M_X10_good _) rfl rfl rfl rfl  rfl rfl wl_7_171 wl_7_173 wp_105 wl_1_10 wl_7_174 hd_X10_good (by rw [e3]; decide) (by decide) dX10_ramBy_115 (?_ : Sd X 118 [(0, 20), (1, 0), (2, 0), (3, 0), (4, 0), (5, 0), (6, 0), (7, 0), (8, 0)] [0] _)
    exact sd_ireturn hC hT dX10_ramBy_118
  refine (?_ : Sd X 0 [(0, 20), (1, 0), (2, 0), (3, 0), (4, 0), (5, 0)] [] (E_X10_ramBy Q))
  unfold E_X10_ramBy
  refine sd_aload_n hC 20 dX10_ramBy_0 rfl (by decide) (by decide) (?_ : Sd X 1 [(0, 20), (1, 0), (2, 0), (3, 0), (4, 0), (5, 0)] [20] _)
  refine sd_iconst hC dX10_ramBy_1 ⟨by decide, by decide⟩ (?_ : Sd X 2 [(0, 20), (1, 0), (2, 0), (3, 0), (4, 0), (5, 0)] [0, 20] _)
  refine sd_put hC (ci := 10) (j := 0) (C := RX10) (T := TX10) (N := 45) tyX10 tyX10_ok nmX10 rfl rfl (by decide) in_X10 rfl rfl wl_5_164 dX10_ramBy_2 (?_ : Sd X 5 [(0, 20), (1, 0), (2, 0), (3, 0), (4, 0), (5, 0)] [] _)
  refine sd_aload_n hC 20 dX10_ramBy_5 rfl (by decide) (by decide) (?_ : Sd X 6 [(0, 20), (1, 0), (2, 0), (3, 0), (4, 0), (5, 0)] [20] _)
  refine sd_iload_n hC dX10_ramBy_6 rfl (by decide) (?_ : Sd X 7 [(0, 20), (1, 0), (2, 0), (3, 0), (4, 0), (5, 0)] [0, 20] _)
  refine sd_inv0 (τ := []) (τr := [0]) (ci := 10) (q := (RX10, TX10, 45)) hC WG (M_X10_isGate _) rfl rfl rfl rfl  rfl rfl wl_7_187 wl_7_189 wp_106 wl_1_10 wl_7_190 hd_X10_isGate (by rw [e3]; decide) (by decide) dX10_ramBy_7 (?_ : Sd X 10 [(0, 20), (1, 0), (2, 0), (3, 0), (4, 0), (5, 0)] [0] _)
  refine sd_if_ne (tgt := 19) hC dX10_ramBy_10 rfl (?_ : Sd X 19 [(0, 20), (1, 0), (2, 0), (3, 0), (4, 0), (5, 0)] [] _) (?_ : Sd X 13 [(0, 20), (1, 0), (2, 0), (3, 0), (4, 0), (5, 0)] [] _)
  · refine sd_iload_n hC dX10_ramBy_19 rfl (by decide) (?_ : Sd X 20 [(0, 20), (1, 0), (2, 0), (3, 0), (4, 0), (5, 0)] [0] _)
    refine sd_invs (τ := []) (τs := [0]) hC false "" WG (M_X10_isSize _) rfl rfl rfl rfl wl_8_119 wl_8_120 wl_1_10 wl_8_121 hd_X10_isSize (by rw [e3]; decide) (by decide) dX10_ramBy_20 (?_ : Sd X 23 [(0, 20), (1, 0), (2, 0), (3, 0), (4, 0), (5, 0)] [0] _)
    refine sd_if_eq (tgt := 49) hC dX10_ramBy_23 rfl (?_ : Sd X 49 [(0, 20), (1, 0), (2, 0), (3, 0), (4, 0), (5, 0)] [] _) (?_ : Sd X 26 [(0, 20), (1, 0), (2, 0), (3, 0), (4, 0), (5, 0)] [] _)
    · exact Sd.weak (by decide) (S_49)
    · refine sd_iload_n hC dX10_ramBy_26 rfl (by decide) (?_ : Sd X 27 [(0, 20), (1, 0), (2, 0), (3, 0), (4, 0), (5, 0)] [0] _)
      refine sd_invs (τ := []) (τs := [0]) hC false "" WG (M_X10_isSize _) rfl rfl rfl rfl wl_8_119 wl_8_120 wl_1_10 wl_8_121 hd_X10_isSize (by rw [e3]; decide) (by decide) dX10_ramBy_27 (?_ : Sd X 30 [(0, 20), (1, 0), (2, 0), (3, 0), (4, 0), (5, 0)] [0] _)
      refine sd_if_eq (tgt := 49) hC dX10_ramBy_30 rfl (?_ : Sd X 49 [(0, 20), (1, 0), (2, 0), (3, 0), (4, 0), (5, 0)] [] _) (?_ : Sd X 33 [(0, 20), (1, 0), (2, 0), (3, 0), (4, 0), (5, 0)] [] _)
      · exact Sd.weak (by decide) (S_49)
      · refine sd_iload hC dX10_ramBy_33 (by decide) (?_ : Sd X 35 [(0, 20), (1, 0), (2, 0), (3, 0), (4, 0), (5, 0)] [0] _)
        refine sd_invs (τ := []) (τs := [0]) hC false "" WG (M_X10_isSize _) rfl rfl rfl rfl wl_8_119 wl_8_120 wl_1_10 wl_8_121 hd_X10_isSize (by rw [e3]; decide) (by decide) dX10_ramBy_35 (?_ : Sd X 38 [(0, 20), (1, 0), (2, 0), (3, 0), (4, 0), (5, 0)] [0] _)
        refine sd_if_eq (tgt := 49) hC dX10_ramBy_38 rfl (?_ : Sd X 49 [(0, 20), (1, 0), (2, 0), (3, 0), (4, 0), (5, 0)] [] _) (?_ : Sd X 41 [(0, 20), (1, 0), (2, 0), (3, 0), (4, 0), (5, 0)] [] _)
        · exact Sd.weak (by decide) (S_49)
        · refine sd_iload hC dX10_ramBy_41 (by decide) (?_ : Sd X 43 [(0, 20), (1, 0), (2, 0), (3, 0), (4, 0), (5, 0)] [0] _)
          refine sd_invs (τ := []) (τs := [0]) hC false "" WG (M_X10_isSize _) rfl rfl rfl rfl wl_8_119 wl_8_120 wl_1_10 wl_8_121 hd_X10_isSize (by rw [e3]; decide) (by decide) dX10_ramBy_43 (?_ : Sd X 46 [(0, 20), (1, 0), (2, 0), (3, 0), (4, 0), (5, 0)] [0] _)
          refine sd_if_ne (tgt := 55) hC dX10_ramBy_46 rfl (?_ : Sd X 55 [(0, 20), (1, 0), (2, 0), (3, 0), (4, 0), (5, 0)] [] _) (?_ : Sd X 49 [(0, 20), (1, 0), (2, 0), (3, 0), (4, 0), (5, 0)] [] _)
          · refine sd_bipush hC dX10_ramBy_55 (by decide) (?_ : Sd X 57 [(0, 20), (1, 0), (2, 0), (3, 0), (4, 0), (5, 0)] [0] _)
            refine sd_iload_n hC dX10_ramBy_57 rfl (by decide) (?_ : Sd X 58 [(0, 20), (1, 0), (2, 0), (3, 0), (4, 0), (5, 0)] [0, 0] _)
            refine sd_imul hC dX10_ramBy_58 (?_ : Sd X 59 [(0, 20), (1, 0), (2, 0), (3, 0), (4, 0), (5, 0)] [0] _)
            refine sd_iconst hC dX10_ramBy_59 ⟨by decide, by decide⟩ (?_ : Sd X 60 [(0, 20), (1, 0), (2, 0), (3, 0), (4, 0), (5, 0)] [0, 0] _)
            refine sd_iadd hC dX10_ramBy_60 (?_ : Sd X 61 [(0, 20), (1, 0), (2, 0), (3, 0), (4, 0), (5, 0)] [0] _)
            refine sd_istore (Γ' := [(0, 20), (1, 0), (2, 0), (3, 0), (4, 0), (5, 0), (6, 0)]) hC dX10_ramBy_61 (by rw [e2]; decide) (by decide) (?_ : Sd X 63 [(0, 20), (1, 0), (2, 0), (3, 0), (4, 0), (5, 0), (6, 0)] [] _)
            refine sd_aload_n hC 20 dX10_ramBy_63 rfl (by decide) (by decide) (?_ : Sd X 64 [(0, 20), (1, 0), (2, 0), (3, 0), (4, 0), (5, 0), (6, 0)] [20] _)
            refine sd_get hC (ci := 10) (j := 16) (C := RX10) (T := TX10) (N := 45) rfl rfl (by decide) in_X10 wl_5_180 dX10_ramBy_64 (?_ : Sd X 67 [(0, 20), (1, 0), (2, 0), (3, 0), (4, 0), (5, 0), (6, 0)] [100] _)
            refine sd_iload hC dX10_ramBy_67 (by decide) (?_ : Sd X 69 [(0, 20), (1, 0), (2, 0), (3, 0), (4, 0), (5, 0), (6, 0)] [0, 100] _)
            refine sd_iaload hC dX10_ramBy_69 (?_ : Sd X 70 [(0, 20), (1, 0), (2, 0), (3, 0), (4, 0), (5, 0), (6, 0)] [0] _)
            refine sd_istore (Γ' := [(0, 20), (1, 0), (2, 0), (3, 0), (4, 0), (5, 0), (6, 0), (7, 0)]) hC dX10_ramBy_70 (by rw [e2]; decide) (by decide) (?_ : Sd X 72 [(0, 20), (1, 0), (2, 0), (3, 0), (4, 0), (5, 0), (6, 0), (7, 0)] [] _)
            refine sd_aload_n hC 20 dX10_ramBy_72 rfl (by decide) (by decide) (?_ : Sd X 73 [(0, 20), (1, 0), (2, 0), (3, 0), (4, 0), (5, 0), (6, 0), (7, 0)] [20] _)
            refine sd_get hC (ci := 10) (j := 16) (C := RX10) (T := TX10) (N := 45) rfl rfl (by decide) in_X10 wl_5_180 dX10_ramBy_73 (?_ : Sd X 76 [(0, 20), (1, 0), (2, 0), (3, 0), (4, 0), (5, 0), (6, 0), (7, 0)] [100] _)
            refine sd_iload hC dX10_ramBy_76 (by decide) (?_ : Sd X 78 [(0, 20), (1, 0), (2, 0), (3, 0), (4, 0), (5, 0), (6, 0), (7, 0)] [0, 100] _)
            refine sd_iload hC dX10_ramBy_78 (by decide) (?_ : Sd X 80 [(0, 20), (1, 0), (2, 0), (3, 0), (4, 0), (5, 0), (6, 0), (7, 0)] [0, 0, 100] _)
            refine sd_iload hC dX10_ramBy_80 (by decide) (?_ : Sd X 82 [(0, 20), (1, 0), (2, 0), (3, 0), (4, 0), (5, 0), (6, 0), (7, 0)] [0, 0, 0, 100] _)
            refine sd_icmp_le (tgt := 90) hC dX10_ramBy_82 rfl (?_ : Sd X 90 [(0, 20), (1, 0), (2, 0), (3, 0), (4, 0), (5, 0), (6, 0), (7, 0)] [0, 100] _) (?_ : Sd X 85 [(0, 20), (1, 0), (2, 0), (3, 0), (4, 0), (5, 0), (6, 0), (7, 0)] [0, 100] _)
            · refine sd_iload hC dX10_ramBy_90 (by decide) (?_ : Sd X 92 [(0, 20), (1, 0), (2, 0), (3, 0), (4, 0), (5, 0), (6, 0), (7, 0)] [0, 0, 100] _)
              exact Sd.weak (by decide) (S_92)
            · refine sd_iload hC dX10_ramBy_85 (by decide) (?_ : Sd X 87 [(0, 20), (1, 0), (2, 0), (3, 0), (4, 0), (5, 0), (6, 0), (7, 0)] [0, 0, 100] _)
              refine sd_goto (tgt := 92) hC dX10_ramBy_87 rfl (?_ : Sd X 92 [(0, 20), (1, 0), (2, 0), (3, 0), (4, 0), (5, 0), (6, 0), (7, 0)] [0, 0, 100] _)
              exact Sd.weak (by decide) (S_92)
          · exact Sd.weak (by decide) (S_49)
  · refine sd_aload_n hC 20 dX10_ramBy_13 rfl (by decide) (by decide) (?_ : Sd X 14 [(0, 20), (1, 0), (2, 0), (3, 0), (4, 0), (5, 0)] [20] _)
    refine sd_iconst hC dX10_ramBy_14 ⟨by decide, by decide⟩ (?_ : Sd X 15 [(0, 20), (1, 0), (2, 0), (3, 0), (4, 0), (5, 0)] [0, 20] _)
    refine sd_inv0 (τ := []) (τr := [0]) (ci := 10) (q := (RX10, TX10, 45)) hC WG (M_X10_refused _) rfl rfl rfl rfl  rfl rfl wl_6_72 wl_6_74 wp_63 wl_1_10 wl_6_75 hd_X10_refused (by rw [e3]; decide) (by decide) dX10_ramBy_15 (?_ : Sd X 18 [(0, 20), (1, 0), (2, 0), (3, 0), (4, 0), (5, 0)] [0] _)
    exact sd_ireturn hC hT dX10_ramBy_18
theorem wl_6_234 : Cond.methodLink RX10 143 yX10_bounded ∈ WALL := tb6 (List.mem_of_getElem? (i := 234) rfl) rfl
theorem wl_6_236 : Cond.instanceMethod yX10_bounded ∈ WALL := tb6 (List.mem_of_getElem? (i := 236) rfl) rfl
theorem wp_72 : Cond.selects RX10 yX10_bounded yX10_bounded ∈ WALL := tbS (List.mem_of_getElem? (i := 72) rfl)
theorem wl_6_237 : Cond.code yX10_bounded cX10_bounded 3 (some .int) ∈ WALL := tb6 (List.mem_of_getElem? (i := 237) rfl) rfl
theorem hd_X10_readWhole : yX10_readWhole.cls ≠ "java/lang/invoke/MethodHandle" ∧ yX10_readWhole.cls ≠ "java/lang/invoke/VarHandle" ∧ (parseMethodDescriptor yX10_readWhole.desc).map (fun d => d.parameters.length) = some 2 := by decide +kernel
set_option maxRecDepth 100000 in
set_option maxHeartbeats 4000000 in
theorem M_X10_readWhole (l : Launch) : Mt l yX10_readWhole (Cond.code yX10_readWhole cX10_readWhole 4 (some .int) :: WALL) { frames := 2, cells := 0, slots := 0, locals := 44 } [20, 0, 0] (some 0) T_X10_readWhole := by
  refine Mt.mk (B := E_X10_readWhole) (by decide +kernel) (by decide) (fun _ _ _ hh => hh) ?_
  intro X Q e1 e2 e3 hC hN hT
  subst e1
  have hC : CF X cX10_readWhole RX10 WALL := hC
  refine (?_ : Sd X 0 [(0, 20), (1, 0), (2, 0)] [] (E_X10_readWhole Q))
  unfold E_X10_readWhole
  refine sd_aload_n hC 20 dX10_readWhole_0 rfl (by decide) (by decide) (?_ : Sd X 1 [(0, 20), (1, 0), (2, 0)] [20] _)
  refine sd_iload_n hC dX10_readWhole_1 rfl (by decide) (?_ : Sd X 2 [(0, 20), (1, 0), (2, 0)] [0, 20] _)
  refine sd_iload_n hC dX10_readWhole_2 rfl (by decide) (?_ : Sd X 3 [(0, 20), (1, 0), (2, 0)] [0, 0, 20] _)
  refine sd_inv0 (τ := []) (τr := [0, 0]) (ci := 10) (q := (RX10, TX10, 45)) hC WG (M_X10_bounded _) rfl rfl rfl rfl  rfl rfl wl_6_234 wl_6_236 wp_72 wl_1_10 wl_6_237 hd_X10_bounded (by rw [e3]; decide) (by decide) dX10_readWhole_3 (?_ : Sd X 6 [(0, 20), (1, 0), (2, 0)] [0] _)
  refine sd_istore_n (Γ' := [(0, 20), (1, 0), (2, 0), (3, 0)]) hC dX10_readWhole_6 rfl (by rw [e2]; decide) (by decide) (?_ : Sd X 7 [(0, 20), (1, 0), (2, 0), (3, 0)] [] _)
  refine sd_aload_n hC 20 dX10_readWhole_7 rfl (by decide) (by decide) (?_ : Sd X 8 [(0, 20), (1, 0), (2, 0), (3, 0)] [20] _)
  refine sd_inv0v (τ := []) (τr := []) (ci := 10) (q := (RX10, TX10, 45)) hC WG (M_X10_goesOn _) rfl rfl rfl rfl  rfl rfl wl_6_189 wl_6_191 wp_64 wl_1_10 wl_6_192 hd_X10_goesOn (by rw [e3]; decide) (by decide) dX10_readWhole_8 (?_ : Sd X 11 [(0, 20), (1, 0), (2, 0), (3, 0)] [] _)
  refine sd_iload_n hC dX10_readWhole_11 rfl (by decide) (?_ : Sd X 12 [(0, 20), (1, 0), (2, 0), (3, 0)] [0] _)
  exact sd_ireturn hC hT dX10_readWhole_12
theorem wl_6_230 : Cond.methodLink RX10 151 yX10_readWhole ∈ WALL := tb6 (List.mem_of_getElem? (i := 230) rfl) rfl
theorem wl_6_232 : Cond.instanceMethod yX10_readWhole ∈ WALL := tb6 (List.mem_of_getElem? (i := 232) rfl) rfl
theorem wp_71 : Cond.selects RX10 yX10_readWhole yX10_readWhole ∈ WALL := tbS (List.mem_of_getElem? (i := 71) rfl)
theorem wl_6_233 : Cond.code yX10_readWhole cX10_readWhole 4 (some .int) ∈ WALL := tb6 (List.mem_of_getElem? (i := 233) rfl) rfl
theorem wl_7_1 : Cond.methodLink RX10 189 yX10_eatsSign ∈ WALL := tb7 (List.mem_of_getElem? (i := 1) rfl) rfl
theorem wl_7_3 : Cond.instanceMethod yX10_eatsSign ∈ WALL := tb7 (List.mem_of_getElem? (i := 3) rfl) rfl
theorem wp_73 : Cond.selects RX10 yX10_eatsSign yX10_eatsSign ∈ WALL := tbS (List.mem_of_getElem? (i := 73) rfl)
theorem wl_7_4 : Cond.code yX10_eatsSign cX10_eatsSign 3 (some .boolean) ∈ WALL := tb7 (List.mem_of_getElem? (i := 4) rfl) rfl
theorem hd_X10_readRings : yX10_readRings.cls ≠ "java/lang/invoke/MethodHandle" ∧ yX10_readRings.cls ≠ "java/lang/invoke/VarHandle" ∧ (parseMethodDescriptor yX10_readRings.desc).map (fun d => d.parameters.length) = some 0 := by decide +kernel
set_option maxRecDepth 100000 in
set_option maxHeartbeats 4000000 in
theorem M_X10_readRings (l : Launch) : Mt l yX10_readRings (Cond.code yX10_readRings cX10_readRings 4 none :: WALL) { frames := 3, cells := 0, slots := 0, locals := 67 } [20] none T_X10_readRings := by
  refine Mt.mk (B := E_X10_readRings) (by decide +kernel) (by decide) (fun _ _ _ hh => hh) ?_
  intro X Q e1 e2 e3 hC hN hT
  subst e1
  have hC : CF X cX10_readRings RX10 WALL := hC
  have S_144 : Sd X 144 [(0, 20), (1, 0), (2, 0)] [] (B_X10_readRings_144 Q) := by
    unfold B_X10_readRings_144
    exact sd_return hC hT dX10_readRings_144
  have S_128 : Sd X 128 [(0, 20), (1, 0), (2, 0)] [] (B_X10_readRings_128 Q) := by
    unfold B_X10_readRings_128
    refine sd_aload_n hC 20 dX10_readRings_128 rfl (by decide) (by decide) (?_ : Sd X 129 [(0, 20), (1, 0), (2, 0)] [20] _)
    refine sd_get hC (ci := 10) (j := 9) (C := RX10) (T := TX10) (N := 45) rfl rfl (by decide) in_X10 wl_5_173 dX10_readRings_129 (?_ : Sd X 132 [(0, 20), (1, 0), (2, 0)] [0] _)
    refine sd_iconst hC dX10_readRings_132 ⟨by decide, by decide⟩ (?_ : Sd X 133 [(0, 20), (1, 0), (2, 0)] [0, 0] _)
    refine sd_icmp_eq (tgt := 144) hC dX10_readRings_133 rfl (?_ : Sd X 144 [(0, 20), (1, 0), (2, 0)] [] _) (?_ : Sd X 136 [(0, 20), (1, 0), (2, 0)] [] _)
    · exact Sd.weak (by decide) (S_144)
    · refine sd_aload_n hC 20 dX10_readRings_136 rfl (by decide) (by decide) (?_ : Sd X 137 [(0, 20), (1, 0), (2, 0)] [20] _)
      refine sd_get hC (ci := 10) (j := 4) (C := RX10) (T := TX10) (N := 45) rfl rfl (by decide) in_X10 wl_5_168 dX10_readRings_137 (?_ : Sd X 140 [(0, 20), (1, 0), (2, 0)] [19] _)
      refine sd_iload_n hC dX10_readRings_140 rfl (by decide) (?_ : Sd X 141 [(0, 20), (1, 0), (2, 0)] [0, 19] _)
      refine sd_putN hC (ci := 9) (j := 0) (C := RX9) (T := TX9) (N := 28) (host := "NarrowRingsModel") tyX9 tyX9_ok nmX9 rfl rfl (by decide) in_X9 rfl rfl (by decide) dX10_readRings_141 (?_ : Sd X 144 [(0, 20), (1, 0), (2, 0)] [] _)
      exact Sd.weak (by decide) (S_144)
  have S_118 : Sd X 118 [(0, 20), (1, 0), (2, 0)] [] (B_X10_readRings_118 Q) := by
    unfold B_X10_readRings_118
    refine sd_iload_n hC dX10_readRings_118 rfl (by decide) (?_ : Sd X 119 [(0, 20), (1, 0), (2, 0)] [0] _)
    refine sd_iconst hC dX10_readRings_119 ⟨by decide, by decide⟩ (?_ : Sd X 120 [(0, 20), (1, 0), (2, 0)] [0, 0] _)
    refine sd_icmp_ge (tgt := 128) hC dX10_readRings_120 rfl (?_ : Sd X 128 [(0, 20), (1, 0), (2, 0)] [] _) (?_ : Sd X 123 [(0, 20), (1, 0), (2, 0)] [] _)
    · exact Sd.weak (by decide) (S_128)
    · refine sd_aload_n hC 20 dX10_readRings_123 rfl (by decide) (by decide) (?_ : Sd X 124 [(0, 20), (1, 0), (2, 0)] [20] _)
      refine sd_iconst hC dX10_readRings_124 ⟨by decide, by decide⟩ (?_ : Sd X 125 [(0, 20), (1, 0), (2, 0)] [0, 20] _)
      refine sd_inv0v (τ := []) (τr := [0]) (ci := 10) (q := (RX10, TX10, 45)) hC WG (M_X10_wrong _) rfl rfl rfl rfl  rfl rfl wl_6_226 wl_6_228 wp_70 wl_1_10 wl_6_229 hd_X10_wrong (by rw [e3]; decide) (by decide) dX10_readRings_125 (?_ : Sd X 128 [(0, 20), (1, 0), (2, 0)] [] _)
      exact Sd.weak (by decide) (S_128)
  have S_82 : ∀ (k23 : tK), Sd X 23 [(0, 20), (1, 0), (2, 0)] [] k23 → Sd X 82 [(0, 20), (1, 0), (2, 0)] [0, 0, 20] (B_X10_readRings_82 Q k23) := by
    intro k23 h23
    unfold B_X10_readRings_82
    refine sd_inv0 (τ := []) (τr := [0, 0]) (ci := 10) (q := (RX10, TX10, 45)) hC WG (M_X10_readWhole _) rfl rfl rfl rfl  rfl rfl wl_6_230 wl_6_232 wp_71 wl_1_10 wl_6_233 hd_X10_readWhole (by rw [e3]; decide) (by decide) dX10_readRings_82 (?_ : Sd X 85 [(0, 20), (1, 0), (2, 0)] [0] _)
    refine sd_istore_n (Γ' := [(0, 20), (1, 0), (2, 0), (3, 0)]) hC dX10_readRings_85 rfl (by rw [e2]; decide) (by decide) (?_ : Sd X 86 [(0, 20), (1, 0), (2, 0), (3, 0)] [] _)
    refine sd_aload_n hC 20 dX10_readRings_86 rfl (by decide) (by decide) (?_ : Sd X 87 [(0, 20), (1, 0), (2, 0), (3, 0)] [20] _)
    refine sd_get hC (ci := 10) (j := 9) (C := RX10) (T := TX10) (N := 45) rfl rfl (by decide) in_X10 wl_5_173 dX10_readRings_87 (?_ : Sd X 90 [(0, 20), (1, 0), (2, 0), (3, 0)] [0] _)
    refine sd_iconst hC dX10_readRings_90 ⟨by decide, by decide⟩ (?_ : Sd X 91 [(0, 20), (1, 0), (2, 0), (3, 0)] [0, 0] _)
    refine sd_icmp_ne (tgt := 95) hC dX10_readRings_91 rfl (?_ : Sd X 95 [(0, 20), (1, 0), (2, 0), (3, 0)] [] _) (?_ : Sd X 94 [(0, 20), (1, 0), (2, 0), (3, 0)] [] _)
    · refine sd_aload_n hC 20 dX10_readRings_95 rfl (by decide) (by decide) (?_ : Sd X 96 [(0, 20), (1, 0), (2, 0), (3, 0)] [20] _)
      refine sd_get hC (ci := 10) (j := 4) (C := RX10) (T := TX10) (N := 45) rfl rfl (by decide) in_X10 wl_5_168 dX10_readRings_96 (?_ : Sd X 99 [(0, 20), (1, 0), (2, 0), (3, 0)] [19] _)
      refine sd_getN hC (ci := 9) (j := 6) (C := RX9) (T := TX9) (N := 28) (host := "NarrowRingsModel") rfl rfl (by decide) in_X9 (by decide) dX10_readRings_99 (?_ : Sd X 102 [(0, 20), (1, 0), (2, 0), (3, 0)] [100] _)
      refine sd_iload_n hC dX10_readRings_102 rfl (by decide) (?_ : Sd X 103 [(0, 20), (1, 0), (2, 0), (3, 0)] [0, 100] _)
      refine sd_iload_n hC dX10_readRings_103 rfl (by decide) (?_ : Sd X 104 [(0, 20), (1, 0), (2, 0), (3, 0)] [0, 0, 100] _)
      refine sd_iastore hC dX10_readRings_104 (?_ : Sd X 105 [(0, 20), (1, 0), (2, 0), (3, 0)] [] _)
      refine sd_iinc (Γ' := [(0, 20), (1, 0), (2, 0), (3, 0)]) hC dX10_readRings_105 (by decide) (by rw [e2]; decide) (by decide) (?_ : Sd X 108 [(0, 20), (1, 0), (2, 0), (3, 0)] [] _)
      refine sd_aload_n hC 20 dX10_readRings_108 rfl (by decide) (by decide) (?_ : Sd X 109 [(0, 20), (1, 0), (2, 0), (3, 0)] [20] _)
      refine sd_bipush hC dX10_readRings_109 (by decide) (?_ : Sd X 111 [(0, 20), (1, 0), (2, 0), (3, 0)] [0, 20] _)
      refine sd_inv0 (τ := []) (τr := [0]) (ci := 10) (q := (RX10, TX10, 45)) hC WG (M_X10_eatsSign _) rfl rfl rfl rfl  rfl rfl wl_7_1 wl_7_3 wp_73 wl_1_10 wl_7_4 hd_X10_eatsSign (by rw [e3]; decide) (by decide) dX10_readRings_111 (?_ : Sd X 114 [(0, 20), (1, 0), (2, 0), (3, 0)] [0] _)
      refine sd_istore_n (Γ' := [(0, 20), (1, 0), (2, 0), (3, 0)]) hC dX10_readRings_114 rfl (by rw [e2]; decide) (by decide) (?_ : Sd X 115 [(0, 20), (1, 0), (2, 0), (3, 0)] [] _)
      refine sd_goto (tgt := 23) hC dX10_readRings_115 rfl (?_ : Sd X 23 [(0, 20), (1, 0), (2, 0), (3, 0)] [] _)
      exact Sd.weak (by decide) h23
    · exact sd_return hC hT dX10_readRings_94
  have S_66 : ∀ (k23 : tK), Sd X 23 [(0, 20), (1, 0), (2, 0)] [] k23 → Sd X 66 [(0, 20), (1, 0), (2, 0)] [0, 20] (B_X10_readRings_66 Q k23) := by
    intro k23 h23
    unfold B_X10_readRings_66
    refine sd_bipush hC dX10_readRings_66 (by decide) (?_ : Sd X 68 [(0, 20), (1, 0), (2, 0)] [0, 0, 20] _)
    refine sd_goto (tgt := 82) hC dX10_readRings_68 rfl (?_ : Sd X 82 [(0, 20), (1, 0), (2, 0)] [0, 0, 20] _)
    exact Sd.weak (by decide) (S_82 k23 h23)
  have S_54 : ∀ (k23 : tK), Sd X 23 [(0, 20), (1, 0), (2, 0)] [] k23 → Sd X 54 [(0, 20), (1, 0), (2, 0)] [] (B_X10_readRings_54 Q k23) := by
    intro k23 h23
    unfold B_X10_readRings_54
    refine sd_aload_n hC 20 dX10_readRings_54 rfl (by decide) (by decide) (?_ : Sd X 55 [(0, 20), (1, 0), (2, 0)] [20] _)
    refine sd_iconst hC dX10_readRings_55 ⟨by decide, by decide⟩ (?_ : Sd X 56 [(0, 20), (1, 0), (2, 0)] [0, 20] _)
    refine sd_iload_n hC dX10_readRings_56 rfl (by decide) (?_ : Sd X 57 [(0, 20), (1, 0), (2, 0)] [0, 0, 20] _)
    refine sd_if_eq (tgt := 66) hC dX10_readRings_57 rfl (?_ : Sd X 66 [(0, 20), (1, 0), (2, 0)] [0, 20] _) (?_ : Sd X 60 [(0, 20), (1, 0), (2, 0)] [0, 20] _)
    · exact Sd.weak (by decide) (S_66 k23 h23)
    · refine sd_iload_n hC dX10_readRings_60 rfl (by decide) (?_ : Sd X 61 [(0, 20), (1, 0), (2, 0)] [0, 0, 20] _)
      refine sd_bipush hC dX10_readRings_61 (by decide) (?_ : Sd X 63 [(0, 20), (1, 0), (2, 0)] [0, 0, 0, 20] _)
      refine sd_icmp_ne (tgt := 71) hC dX10_readRings_63 rfl (?_ : Sd X 71 [(0, 20), (1, 0), (2, 0)] [0, 20] _) (?_ : Sd X 66 [(0, 20), (1, 0), (2, 0)] [0, 20] _)
      · refine sd_aload_n hC 20 dX10_readRings_71 rfl (by decide) (by decide) (?_ : Sd X 72 [(0, 20), (1, 0), (2, 0)] [20, 0, 20] _)
        refine sd_get hC (ci := 10) (j := 4) (C := RX10) (T := TX10) (N := 45) rfl rfl (by decide) in_X10 wl_5_168 dX10_readRings_72 (?_ : Sd X 75 [(0, 20), (1, 0), (2, 0)] [19, 0, 20] _)
        refine sd_getN hC (ci := 9) (j := 6) (C := RX9) (T := TX9) (N := 28) (host := "NarrowRingsModel") rfl rfl (by decide) in_X9 (by decide) dX10_readRings_75 (?_ : Sd X 78 [(0, 20), (1, 0), (2, 0)] [100, 0, 20] _)
        refine sd_iload_n hC dX10_readRings_78 rfl (by decide) (?_ : Sd X 79 [(0, 20), (1, 0), (2, 0)] [0, 100, 0, 20] _)
        refine sd_iconst hC dX10_readRings_79 ⟨by decide, by decide⟩ (?_ : Sd X 80 [(0, 20), (1, 0), (2, 0)] [0, 0, 100, 0, 20] _)
        refine sd_isub hC dX10_readRings_80 (?_ : Sd X 81 [(0, 20), (1, 0), (2, 0)] [0, 100, 0, 20] _)
        refine sd_iaload hC dX10_readRings_81 (?_ : Sd X 82 [(0, 20), (1, 0), (2, 0)] [0, 0, 20] _)
        exact Sd.weak (by decide) (S_82 k23 h23)
      · exact Sd.weak (by decide) (S_66 k23 h23)
  have S_23 : Sd X 23 [(0, 20), (1, 0), (2, 0)] [] (L_X10_readRings_23 Q) := by
    unfold L_X10_readRings_23
    refine Sd.loop (fun k23 h23 => ?_)
    refine sd_iload_n hC dX10_readRings_23 rfl (by decide) (?_ : Sd X 24 [(0, 20), (1, 0), (2, 0)] [0] _)
    refine sd_if_eq (tgt := 118) hC dX10_readRings_24 rfl (?_ : Sd X 118 [(0, 20), (1, 0), (2, 0)] [] _) (?_ : Sd X 27 [(0, 20), (1, 0), (2, 0)] [] _)
    · exact Sd.weak (by decide) (S_118)
    · refine sd_aload_n hC 20 dX10_readRings_27 rfl (by decide) (by decide) (?_ : Sd X 28 [(0, 20), (1, 0), (2, 0)] [20] _)
      refine sd_get hC (ci := 10) (j := 9) (C := RX10) (T := TX10) (N := 45) rfl rfl (by decide) in_X10 wl_5_173 dX10_readRings_28 (?_ : Sd X 31 [(0, 20), (1, 0), (2, 0)] [0] _)
      refine sd_iconst hC dX10_readRings_31 ⟨by decide, by decide⟩ (?_ : Sd X 32 [(0, 20), (1, 0), (2, 0)] [0, 0] _)
      refine sd_icmp_eq (tgt := 118) hC dX10_readRings_32 rfl (?_ : Sd X 118 [(0, 20), (1, 0), (2, 0)] [] _) (?_ : Sd X 35 [(0, 20), (1, 0), (2, 0)] [] _)
      · exact Sd.weak (by decide) (S_118)
      · refine sd_aload_n hC 20 dX10_readRings_35 rfl (by decide) (by decide) (?_ : Sd X 36 [(0, 20), (1, 0), (2, 0)] [20] _)
        refine sd_get hC (ci := 10) (j := 9) (C := RX10) (T := TX10) (N := 45) rfl rfl (by decide) in_X10 wl_5_173 dX10_readRings_36 (?_ : Sd X 39 [(0, 20), (1, 0), (2, 0)] [0] _)
        refine sd_iconst hC dX10_readRings_39 ⟨by decide, by decide⟩ (?_ : Sd X 40 [(0, 20), (1, 0), (2, 0)] [0, 0] _)
        refine sd_icmp_ne (tgt := 54) hC dX10_readRings_40 rfl (?_ : Sd X 54 [(0, 20), (1, 0), (2, 0)] [] _) (?_ : Sd X 43 [(0, 20), (1, 0), (2, 0)] [] _)
        · exact Sd.weak (by decide) (S_54 k23 h23)
        · refine sd_iload_n hC dX10_readRings_43 rfl (by decide) (?_ : Sd X 44 [(0, 20), (1, 0), (2, 0)] [0] _)
          refine sd_bipush hC dX10_readRings_44 (by decide) (?_ : Sd X 46 [(0, 20), (1, 0), (2, 0)] [0, 0] _)
          refine sd_icmp_ne (tgt := 54) hC dX10_readRings_46 rfl (?_ : Sd X 54 [(0, 20), (1, 0), (2, 0)] [] _) (?_ : Sd X 49 [(0, 20), (1, 0), (2, 0)] [] _)
          · exact Sd.weak (by decide) (S_54 k23 h23)
          · refine sd_aload_n hC 20 dX10_readRings_49 rfl (by decide) (by decide) (?_ : Sd X 50 [(0, 20), (1, 0), (2, 0)] [20] _)
            refine sd_iconst hC dX10_readRings_50 ⟨by decide, by decide⟩ (?_ : Sd X 51 [(0, 20), (1, 0), (2, 0)] [0, 20] _)
            refine sd_inv0v (τ := []) (τr := [0]) (ci := 10) (q := (RX10, TX10, 45)) hC WG (M_X10_wrong _) rfl rfl rfl rfl  rfl rfl wl_6_226 wl_6_228 wp_70 wl_1_10 wl_6_229 hd_X10_wrong (by rw [e3]; decide) (by decide) dX10_readRings_51 (?_ : Sd X 54 [(0, 20), (1, 0), (2, 0)] [] _)
            exact Sd.weak (by decide) (S_54 k23 h23)
  have S_15 : Sd X 15 [(0, 20)] [] (B_X10_readRings_15 Q) := by
    unfold B_X10_readRings_15
    refine sd_aload_n hC 20 dX10_readRings_15 rfl (by decide) (by decide) (?_ : Sd X 16 [(0, 20)] [20] _)
    refine sd_inv0v (τ := []) (τr := []) (ci := 10) (q := (RX10, TX10, 45)) hC WG (M_X10_goesOn _) rfl rfl rfl rfl  rfl rfl wl_6_189 wl_6_191 wp_64 wl_1_10 wl_6_192 hd_X10_goesOn (by rw [e3]; decide) (by decide) dX10_readRings_16 (?_ : Sd X 19 [(0, 20)] [] _)
    refine sd_iconst hC dX10_readRings_19 ⟨by decide, by decide⟩ (?_ : Sd X 20 [(0, 20)] [0] _)
    refine sd_istore_n (Γ' := [(0, 20), (1, 0)]) hC dX10_readRings_20 rfl (by rw [e2]; decide) (by decide) (?_ : Sd X 21 [(0, 20), (1, 0)] [] _)
    refine sd_iconst hC dX10_readRings_21 ⟨by decide, by decide⟩ (?_ : Sd X 22 [(0, 20), (1, 0)] [0] _)
    refine sd_istore_n (Γ' := [(0, 20), (1, 0), (2, 0)]) hC dX10_readRings_22 rfl (by rw [e2]; decide) (by decide) (?_ : Sd X 23 [(0, 20), (1, 0), (2, 0)] [] _)
    exact Sd.weak (by decide) (S_23)
  refine (?_ : Sd X 0 [(0, 20)] [] (E_X10_readRings Q))
  unfold E_X10_readRings
  refine sd_aload_n hC 20 dX10_readRings_0 rfl (by decide) (by decide) (?_ : Sd X 1 [(0, 20)] [20] _)
  refine sd_get hC (ci := 10) (j := 4) (C := RX10) (T := TX10) (N := 45) rfl rfl (by decide) in_X10 wl_5_168 dX10_readRings_1 (?_ : Sd X 4 [(0, 20)] [19] _)
  refine sd_getN hC (ci := 9) (j := 0) (C := RX9) (T := TX9) (N := 28) (host := "NarrowRingsModel") rfl rfl (by decide) in_X9 (by decide) dX10_readRings_4 (?_ : Sd X 7 [(0, 20)] [0] _)
  refine sd_if_le (tgt := 15) hC dX10_readRings_7 rfl (?_ : Sd X 15 [(0, 20)] [] _) (?_ : Sd X 10 [(0, 20)] [] _)
  · exact Sd.weak (by decide) (S_15)
  · refine sd_aload_n hC 20 dX10_readRings_10 rfl (by decide) (by decide) (?_ : Sd X 11 [(0, 20)] [20] _)
    refine sd_iconst hC dX10_readRings_11 ⟨by decide, by decide⟩ (?_ : Sd X 12 [(0, 20)] [0, 20] _)
    refine sd_inv0v (τ := []) (τr := [0]) (ci := 10) (q := (RX10, TX10, 45)) hC WG (M_X10_wrong _) rfl rfl rfl rfl  rfl rfl wl_6_226 wl_6_228 wp_70 wl_1_10 wl_6_229 hd_X10_wrong (by rw [e3]; decide) (by decide) dX10_readRings_12 (?_ : Sd X 15 [(0, 20)] [] _)
    exact Sd.weak (by decide) (S_15)
theorem hd_X10_saves : yX10_saves.cls ≠ "java/lang/invoke/MethodHandle" ∧ yX10_saves.cls ≠ "java/lang/invoke/VarHandle" ∧ (parseMethodDescriptor yX10_saves.desc).map (fun d => d.parameters.length) = some 3 := by decide +kernel
set_option maxRecDepth 100000 in
set_option maxHeartbeats 4000000 in
theorem M_X10_saves (l : Launch) : Mt l yX10_saves (Cond.code yX10_saves cX10_saves 4 (some .int) :: WALL) { frames := 9, cells := 0, slots := 0, locals := 222 } [20, 0, 0, 0] (some 0) T_X10_saves := by
  refine Mt.mk (B := E_X10_saves) (by decide +kernel) (by decide) (fun _ _ _ hh => hh) ?_
  intro X Q e1 e2 e3 hC hN hT
  subst e1
  have hC : CF X cX10_saves RX10 WALL := hC
  have S_37 : Sd X 37 [(0, 20), (1, 0), (2, 0), (3, 0)] [] (B_X10_saves_37 Q) := by
    unfold B_X10_saves_37
    refine sd_aload_n hC 20 dX10_saves_37 rfl (by decide) (by decide) (?_ : Sd X 38 [(0, 20), (1, 0), (2, 0), (3, 0)] [20] _)
    refine sd_iconst hC dX10_saves_38 ⟨by decide, by decide⟩ (?_ : Sd X 39 [(0, 20), (1, 0), (2, 0), (3, 0)] [0, 20] _)
    refine sd_inv0 (τ := []) (τr := [0]) (ci := 10) (q := (RX10, TX10, 45)) hC WG (M_X10_refused _) rfl rfl rfl rfl  rfl rfl wl_6_72 wl_6_74 wp_63 wl_1_10 wl_6_75 hd_X10_refused (by rw [e3]; decide) (by decide) dX10_saves_39 (?_ : Sd X 42 [(0, 20), (1, 0), (2, 0), (3, 0)] [0] _)
    refine sd_pop hC (by decide) dX10_saves_42 (?_ : Sd X 43 [(0, 20), (1, 0), (2, 0), (3, 0)] [] _)
    refine sd_sipush hC dX10_saves_43 (by decide) (?_ : Sd X 46 [(0, 20), (1, 0), (2, 0), (3, 0)] [0] _)
    exact sd_ireturn hC hT dX10_saves_46
  refine (?_ : Sd X 0 [(0, 20), (1, 0), (2, 0), (3, 0)] [] (E_X10_saves Q))
  unfold E_X10_saves
  refine sd_aload_n hC 20 dX10_saves_0 rfl (by decide) (by decide) (?_ : Sd X 1 [(0, 20), (1, 0), (2, 0), (3, 0)] [20] _)
  refine sd_iconst hC dX10_saves_1 ⟨by decide, by decide⟩ (?_ : Sd X 2 [(0, 20), (1, 0), (2, 0), (3, 0)] [0, 20] _)
  refine sd_put hC (ci := 10) (j := 0) (C := RX10) (T := TX10) (N := 45) tyX10 tyX10_ok nmX10 rfl rfl (by decide) in_X10 rfl rfl wl_5_164 dX10_saves_2 (?_ : Sd X 5 [(0, 20), (1, 0), (2, 0), (3, 0)] [] _)
  refine sd_aload_n hC 20 dX10_saves_5 rfl (by decide) (by decide) (?_ : Sd X 6 [(0, 20), (1, 0), (2, 0), (3, 0)] [20] _)
  refine sd_iload_n hC dX10_saves_6 rfl (by decide) (?_ : Sd X 7 [(0, 20), (1, 0), (2, 0), (3, 0)] [0, 20] _)
  refine sd_inv0 (τ := []) (τr := [0]) (ci := 10) (q := (RX10, TX10, 45)) hC WG (M_X10_isGate _) rfl rfl rfl rfl  rfl rfl wl_7_187 wl_7_189 wp_106 wl_1_10 wl_7_190 hd_X10_isGate (by rw [e3]; decide) (by decide) dX10_saves_7 (?_ : Sd X 10 [(0, 20), (1, 0), (2, 0), (3, 0)] [0] _)
  refine sd_if_ne (tgt := 23) hC dX10_saves_10 rfl (?_ : Sd X 23 [(0, 20), (1, 0), (2, 0), (3, 0)] [] _) (?_ : Sd X 13 [(0, 20), (1, 0), (2, 0), (3, 0)] [] _)
  · refine sd_iload_n hC dX10_saves_23 rfl (by decide) (?_ : Sd X 24 [(0, 20), (1, 0), (2, 0), (3, 0)] [0] _)
    refine sd_invs (τ := []) (τs := [0]) hC false "" WG (M_X10_isSize _) rfl rfl rfl rfl wl_8_119 wl_8_120 wl_1_10 wl_8_121 hd_X10_isSize (by rw [e3]; decide) (by decide) dX10_saves_24 (?_ : Sd X 27 [(0, 20), (1, 0), (2, 0), (3, 0)] [0] _)
    refine sd_if_eq (tgt := 37) hC dX10_saves_27 rfl (?_ : Sd X 37 [(0, 20), (1, 0), (2, 0), (3, 0)] [] _) (?_ : Sd X 30 [(0, 20), (1, 0), (2, 0), (3, 0)] [] _)
    · exact Sd.weak (by decide) (S_37)
    · refine sd_iload_n hC dX10_saves_30 rfl (by decide) (?_ : Sd X 31 [(0, 20), (1, 0), (2, 0), (3, 0)] [0] _)
      refine sd_invs (τ := []) (τs := [0]) hC false "" WG (M_X10_isSize _) rfl rfl rfl rfl wl_8_119 wl_8_120 wl_1_10 wl_8_121 hd_X10_isSize (by rw [e3]; decide) (by decide) dX10_saves_31 (?_ : Sd X 34 [(0, 20), (1, 0), (2, 0), (3, 0)] [0] _)
      refine sd_if_ne (tgt := 47) hC dX10_saves_34 rfl (?_ : Sd X 47 [(0, 20), (1, 0), (2, 0), (3, 0)] [] _) (?_ : Sd X 37 [(0, 20), (1, 0), (2, 0), (3, 0)] [] _)
      · refine sd_aload_n hC 20 dX10_saves_47 rfl (by decide) (by decide) (?_ : Sd X 48 [(0, 20), (1, 0), (2, 0), (3, 0)] [20] _)
        refine sd_aload_n hC 20 dX10_saves_48 rfl (by decide) (by decide) (?_ : Sd X 49 [(0, 20), (1, 0), (2, 0), (3, 0)] [20, 20] _)
        refine sd_iload_n hC dX10_saves_49 rfl (by decide) (?_ : Sd X 50 [(0, 20), (1, 0), (2, 0), (3, 0)] [0, 20, 20] _)
        refine sd_iload_n hC dX10_saves_50 rfl (by decide) (?_ : Sd X 51 [(0, 20), (1, 0), (2, 0), (3, 0)] [0, 0, 20, 20] _)
        refine sd_iload_n hC dX10_saves_51 rfl (by decide) (?_ : Sd X 52 [(0, 20), (1, 0), (2, 0), (3, 0)] [0, 0, 0, 20, 20] _)
        refine sd_inv0 (τ := [20]) (τr := [0, 0, 0]) (ci := 10) (q := (RX10, TX10, 45)) hC WG (M_X10_savesBy _) rfl rfl rfl rfl  rfl rfl wl_8_122 wl_8_124 wp_126 wl_1_10 wl_8_125 hd_X10_savesBy (by rw [e3]; decide) (by decide) dX10_saves_52 (?_ : Sd X 55 [(0, 20), (1, 0), (2, 0), (3, 0)] [0, 20] _)
        refine sd_inv0 (τ := []) (τr := [0]) (ci := 10) (q := (RX10, TX10, 45)) hC WG (M_X10_good _) rfl rfl rfl rfl  rfl rfl wl_7_171 wl_7_173 wp_105 wl_1_10 wl_7_174 hd_X10_good (by rw [e3]; decide) (by decide) dX10_saves_55 (?_ : Sd X 58 [(0, 20), (1, 0), (2, 0), (3, 0)] [0] _)
        exact sd_ireturn hC hT dX10_saves_58
      · exact Sd.weak (by decide) (S_37)
  · refine sd_aload_n hC 20 dX10_saves_13 rfl (by decide) (by decide) (?_ : Sd X 14 [(0, 20), (1, 0), (2, 0), (3, 0)] [20] _)
    refine sd_iconst hC dX10_saves_14 ⟨by decide, by decide⟩ (?_ : Sd X 15 [(0, 20), (1, 0), (2, 0), (3, 0)] [0, 20] _)
    refine sd_inv0 (τ := []) (τr := [0]) (ci := 10) (q := (RX10, TX10, 45)) hC WG (M_X10_refused _) rfl rfl rfl rfl  rfl rfl wl_6_72 wl_6_74 wp_63 wl_1_10 wl_6_75 hd_X10_refused (by rw [e3]; decide) (by decide) dX10_saves_15 (?_ : Sd X 18 [(0, 20), (1, 0), (2, 0), (3, 0)] [0] _)
    refine sd_pop hC (by decide) dX10_saves_18 (?_ : Sd X 19 [(0, 20), (1, 0), (2, 0), (3, 0)] [] _)
    refine sd_sipush hC dX10_saves_19 (by decide) (?_ : Sd X 22 [(0, 20), (1, 0), (2, 0), (3, 0)] [0] _)
    exact sd_ireturn hC hT dX10_saves_22
theorem hd_X10_size : yX10_size.cls ≠ "java/lang/invoke/MethodHandle" ∧ yX10_size.cls ≠ "java/lang/invoke/VarHandle" ∧ (parseMethodDescriptor yX10_size.desc).map (fun d => d.parameters.length) = some 1 := by decide +kernel
set_option maxRecDepth 100000 in
set_option maxHeartbeats 4000000 in
theorem M_X10_size (l : Launch) : Mt l yX10_size (Cond.code yX10_size cX10_size 2 (some .int) :: WALL) { frames := 1, cells := 0, slots := 0, locals := 22 } [20, 0] (some 0) T_X10_size := by
  refine Mt.mk (B := E_X10_size) (by decide +kernel) (by decide) (fun _ _ _ hh => hh) ?_
  intro X Q e1 e2 e3 hC hN hT
  subst e1
  have hC : CF X cX10_size RX10 WALL := hC
  refine (?_ : Sd X 0 [(0, 20), (1, 0)] [] (E_X10_size Q))
  unfold E_X10_size
  refine sd_aload_n hC 20 dX10_size_0 rfl (by decide) (by decide) (?_ : Sd X 1 [(0, 20), (1, 0)] [20] _)
  refine sd_iconst hC dX10_size_1 ⟨by decide, by decide⟩ (?_ : Sd X 2 [(0, 20), (1, 0)] [0, 20] _)
  refine sd_put hC (ci := 10) (j := 0) (C := RX10) (T := TX10) (N := 45) tyX10 tyX10_ok nmX10 rfl rfl (by decide) in_X10 rfl rfl wl_5_164 dX10_size_2 (?_ : Sd X 5 [(0, 20), (1, 0)] [] _)
  refine sd_iload_n hC dX10_size_5 rfl (by decide) (?_ : Sd X 6 [(0, 20), (1, 0)] [0] _)
  refine sd_bipush hC dX10_size_6 (by decide) (?_ : Sd X 8 [(0, 20), (1, 0)] [0, 0] _)
  refine sd_icmp_ne (tgt := 16) hC dX10_size_8 rfl (?_ : Sd X 16 [(0, 20), (1, 0)] [] _) (?_ : Sd X 11 [(0, 20), (1, 0)] [] _)
  · refine sd_iload_n hC dX10_size_16 rfl (by decide) (?_ : Sd X 17 [(0, 20), (1, 0)] [0] _)
    refine sd_iconst hC dX10_size_17 ⟨by decide, by decide⟩ (?_ : Sd X 18 [(0, 20), (1, 0)] [0, 0] _)
    refine sd_bipush hC dX10_size_18 (by decide) (?_ : Sd X 20 [(0, 20), (1, 0)] [0, 0, 0] _)
    refine sd_invs (τ := []) (τs := [0, 0, 0]) hC false "" WG (M_X10_in _) rfl rfl rfl rfl wl_6_238 wl_6_239 wl_1_10 wl_7_0 hd_X10_in (by rw [e3]; decide) (by decide) dX10_size_20 (?_ : Sd X 23 [(0, 20), (1, 0)] [0] _)
    refine sd_if_ne (tgt := 28) hC dX10_size_23 rfl (?_ : Sd X 28 [(0, 20), (1, 0)] [] _) (?_ : Sd X 26 [(0, 20), (1, 0)] [] _)
    · refine sd_aload_n hC 20 dX10_size_28 rfl (by decide) (by decide) (?_ : Sd X 29 [(0, 20), (1, 0)] [20] _)
      refine sd_get hC (ci := 10) (j := 3) (C := RX10) (T := TX10) (N := 45) rfl rfl (by decide) in_X10 wl_5_167 dX10_size_29 (?_ : Sd X 32 [(0, 20), (1, 0)] [19] _)
      refine sd_ifnonnull (tgt := 37) hC (by decide) dX10_size_32 rfl (?_ : Sd X 37 [(0, 20), (1, 0)] [] _) (?_ : Sd X 35 [(0, 20), (1, 0)] [] _)
      · refine sd_iload_n hC dX10_size_37 rfl (by decide) (?_ : Sd X 38 [(0, 20), (1, 0)] [0] _)
        refine sd_tsw (td := 131) hC dX10_size_38 rfl rfl ?_ (?_ : Sd X 131 [(0, 20), (1, 0)] [] _)
        · intro j kj hj
          match j, hj with
          | 0, hj =>
            cases hj
            refine ⟨_, 80, rfl, rfl, (?_ : Sd X 80 [(0, 20), (1, 0)] [] _)⟩
            refine sd_aload_n hC 20 dX10_size_80 rfl (by decide) (by decide) (?_ : Sd X 81 [(0, 20), (1, 0)] [20] _)
            refine sd_get hC (ci := 10) (j := 3) (C := RX10) (T := TX10) (N := 45) rfl rfl (by decide) in_X10 wl_5_167 dX10_size_81 (?_ : Sd X 84 [(0, 20), (1, 0)] [19] _)
            refine sd_getN hC (ci := 9) (j := 0) (C := RX9) (T := TX9) (N := 28) (host := "NarrowRingsModel") rfl rfl (by decide) in_X9 (by decide) dX10_size_84 (?_ : Sd X 87 [(0, 20), (1, 0)] [0] _)
            exact sd_ireturn hC hT dX10_size_87
          | 1, hj =>
            cases hj
            refine ⟨_, 88, rfl, rfl, (?_ : Sd X 88 [(0, 20), (1, 0)] [] _)⟩
            refine sd_aload_n hC 20 dX10_size_88 rfl (by decide) (by decide) (?_ : Sd X 89 [(0, 20), (1, 0)] [20] _)
            refine sd_get hC (ci := 10) (j := 17) (C := RX10) (T := TX10) (N := 45) rfl rfl (by decide) in_X10 wl_5_181 dX10_size_89 (?_ : Sd X 92 [(0, 20), (1, 0)] [0] _)
            exact sd_ireturn hC hT dX10_size_92
          | 2, hj =>
            cases hj
            refine ⟨_, 93, rfl, rfl, (?_ : Sd X 93 [(0, 20), (1, 0)] [] _)⟩
            refine sd_aload_n hC 20 dX10_size_93 rfl (by decide) (by decide) (?_ : Sd X 94 [(0, 20), (1, 0)] [20] _)
            refine sd_get hC (ci := 10) (j := 3) (C := RX10) (T := TX10) (N := 45) rfl rfl (by decide) in_X10 wl_5_167 dX10_size_94 (?_ : Sd X 97 [(0, 20), (1, 0)] [19] _)
            refine sd_getN hC (ci := 9) (j := 2) (C := RX9) (T := TX9) (N := 28) (host := "NarrowRingsModel") rfl rfl (by decide) in_X9 (by decide) dX10_size_97 (?_ : Sd X 100 [(0, 20), (1, 0)] [0] _)
            exact sd_ireturn hC hT dX10_size_100
          | 3, hj =>
            cases hj
            refine ⟨_, 101, rfl, rfl, (?_ : Sd X 101 [(0, 20), (1, 0)] [] _)⟩
            refine sd_aload_n hC 20 dX10_size_101 rfl (by decide) (by decide) (?_ : Sd X 102 [(0, 20), (1, 0)] [20] _)
            refine sd_get hC (ci := 10) (j := 3) (C := RX10) (T := TX10) (N := 45) rfl rfl (by decide) in_X10 wl_5_167 dX10_size_102 (?_ : Sd X 105 [(0, 20), (1, 0)] [19] _)
            refine sd_getN hC (ci := 9) (j := 3) (C := RX9) (T := TX9) (N := 28) (host := "NarrowRingsModel") rfl rfl (by decide) in_X9 (by decide) dX10_size_105 (?_ : Sd X 108 [(0, 20), (1, 0)] [0] _)
            exact sd_ireturn hC hT dX10_size_108
          | 4, hj =>
            cases hj
            refine ⟨_, 109, rfl, rfl, (?_ : Sd X 109 [(0, 20), (1, 0)] [] _)⟩
            refine sd_aload_n hC 20 dX10_size_109 rfl (by decide) (by decide) (?_ : Sd X 110 [(0, 20), (1, 0)] [20] _)
            refine sd_get hC (ci := 10) (j := 3) (C := RX10) (T := TX10) (N := 45) rfl rfl (by decide) in_X10 wl_5_167 dX10_size_110 (?_ : Sd X 113 [(0, 20), (1, 0)] [19] _)
            refine sd_getN hC (ci := 9) (j := 4) (C := RX9) (T := TX9) (N := 28) (host := "NarrowRingsModel") rfl rfl (by decide) in_X9 (by decide) dX10_size_113 (?_ : Sd X 116 [(0, 20), (1, 0)] [0] _)
            exact sd_ireturn hC hT dX10_size_116
          | 5, hj =>
            cases hj
            refine ⟨_, 117, rfl, rfl, (?_ : Sd X 117 [(0, 20), (1, 0)] [] _)⟩
            refine sd_aload_n hC 20 dX10_size_117 rfl (by decide) (by decide) (?_ : Sd X 118 [(0, 20), (1, 0)] [20] _)
            refine sd_get hC (ci := 10) (j := 32) (C := RX10) (T := TX10) (N := 45) rfl rfl (by decide) in_X10 wl_5_196 dX10_size_118 (?_ : Sd X 121 [(0, 20), (1, 0)] [100] _)
            refine sd_sipush hC dX10_size_121 (by decide) (?_ : Sd X 124 [(0, 20), (1, 0)] [0, 100] _)
            refine sd_iaload hC dX10_size_124 (?_ : Sd X 125 [(0, 20), (1, 0)] [0] _)
            exact sd_ireturn hC hT dX10_size_125
          | 6, hj =>
            cases hj
            refine ⟨_, 126, rfl, rfl, (?_ : Sd X 126 [(0, 20), (1, 0)] [] _)⟩
            refine sd_aload_n hC 20 dX10_size_126 rfl (by decide) (by decide) (?_ : Sd X 127 [(0, 20), (1, 0)] [20] _)
            refine sd_get hC (ci := 10) (j := 39) (C := RX10) (T := TX10) (N := 45) rfl rfl (by decide) in_X10 wl_5_203 dX10_size_127 (?_ : Sd X 130 [(0, 20), (1, 0)] [0] _)
            exact sd_ireturn hC hT dX10_size_130
          | j + 7, hj => exact absurd hj (by simp)
        · refine sd_aload_n hC 20 dX10_size_131 rfl (by decide) (by decide) (?_ : Sd X 132 [(0, 20), (1, 0)] [20] _)
          refine sd_get hC (ci := 10) (j := 44) (C := RX10) (T := TX10) (N := 45) rfl rfl (by decide) in_X10 wl_5_208 dX10_size_132 (?_ : Sd X 135 [(0, 20), (1, 0)] [0] _)
          exact sd_ireturn hC hT dX10_size_135
      · refine sd_iconst hC dX10_size_35 ⟨by decide, by decide⟩ (?_ : Sd X 36 [(0, 20), (1, 0)] [0] _)
        exact sd_ireturn hC hT dX10_size_36
    · refine sd_iconst hC dX10_size_26 ⟨by decide, by decide⟩ (?_ : Sd X 27 [(0, 20), (1, 0)] [0] _)
      exact sd_ireturn hC hT dX10_size_27
  · refine sd_aload_n hC 20 dX10_size_11 rfl (by decide) (by decide) (?_ : Sd X 12 [(0, 20), (1, 0)] [20] _)
    refine sd_get hC (ci := 10) (j := 6) (C := RX10) (T := TX10) (N := 45) rfl rfl (by decide) in_X10 wl_5_170 dX10_size_12 (?_ : Sd X 15 [(0, 20), (1, 0)] [0] _)
    exact sd_ireturn hC hT dX10_size_15
theorem wl_8_163 : Cond.methodLink RX10 523 yX10_lowers ∈ WALL := tb8 (List.mem_of_getElem? (i := 163) rfl) rfl
theorem wl_8_164 : Cond.static yX10_lowers ∈ WALL := tb8 (List.mem_of_getElem? (i := 164) rfl) rfl
theorem wl_8_165 : Cond.code yX10_lowers cX10_lowers 3 (some .boolean) ∈ WALL := tb8 (List.mem_of_getElem? (i := 165) rfl) rfl
theorem hd_X10_spreads : yX10_spreads.cls ≠ "java/lang/invoke/MethodHandle" ∧ yX10_spreads.cls ≠ "java/lang/invoke/VarHandle" ∧ (parseMethodDescriptor yX10_spreads.desc).map (fun d => d.parameters.length) = some 1 := by decide +kernel
set_option maxRecDepth 100000 in
set_option maxHeartbeats 4000000 in
theorem M_X10_spreads (l : Launch) : Mt l yX10_spreads (Cond.code yX10_spreads cX10_spreads 5 none :: WALL) { frames := 4, cells := 0, slots := 0, locals := 90 } [20, 100] none T_X10_spreads := by
  refine Mt.mk (B := E_X10_spreads) (by decide +kernel) (by decide) (fun _ _ _ hh => hh) ?_
  intro X Q e1 e2 e3 hC hN hT
  subst e1
  have hC : CF X cX10_spreads RX10 WALL := hC
  have S_200 : ∀ (k2 : tK), Sd X 2 [(0, 20), (1, 100), (2, 0)] [] k2 → ∀ (k119 : tK), Sd X 119 [(0, 20), (1, 100), (2, 0), (3, 0)] [] k119 → Sd X 200 [(0, 20), (1, 100), (2, 0), (3, 0)] [] (B_X10_spreads_200 Q k2 k119) := by
    intro k2 h2 k119 h119
    unfold B_X10_spreads_200
    refine sd_iinc (Γ' := [(0, 20), (1, 100), (2, 0), (3, 0)]) hC dX10_spreads_200 (by decide) (by rw [e2]; decide) (by decide) (?_ : Sd X 203 [(0, 20), (1, 100), (2, 0), (3, 0)] [] _)
    refine sd_goto (tgt := 119) hC dX10_spreads_203 rfl (?_ : Sd X 119 [(0, 20), (1, 100), (2, 0), (3, 0)] [] _)
    exact Sd.weak (by decide) h119
  have S_119 : ∀ (k2 : tK), Sd X 2 [(0, 20), (1, 100), (2, 0)] [] k2 → Sd X 119 [(0, 20), (1, 100), (2, 0), (3, 0)] [] (L_X10_spreads_119 Q k2) := by
    intro k2 h2
    unfold L_X10_spreads_119
    refine Sd.loop (fun k119 h119 => ?_)
    refine sd_iload_n hC dX10_spreads_119 rfl (by decide) (?_ : Sd X 120 [(0, 20), (1, 100), (2, 0), (3, 0)] [0] _)
    refine sd_aload_n hC 20 dX10_spreads_120 rfl (by decide) (by decide) (?_ : Sd X 121 [(0, 20), (1, 100), (2, 0), (3, 0)] [20, 0] _)
    refine sd_get hC (ci := 10) (j := 17) (C := RX10) (T := TX10) (N := 45) rfl rfl (by decide) in_X10 wl_5_181 dX10_spreads_121 (?_ : Sd X 124 [(0, 20), (1, 100), (2, 0), (3, 0)] [0, 0] _)
    refine sd_icmp_ge (tgt := 206) hC dX10_spreads_124 rfl (?_ : Sd X 206 [(0, 20), (1, 100), (2, 0), (3, 0)] [] _) (?_ : Sd X 127 [(0, 20), (1, 100), (2, 0), (3, 0)] [] _)
    · refine sd_goto (tgt := 2) hC dX10_spreads_206 rfl (?_ : Sd X 2 [(0, 20), (1, 100), (2, 0), (3, 0)] [] _)
      exact Sd.weak (by decide) h2
    · refine sd_aload_n hC 20 dX10_spreads_127 rfl (by decide) (by decide) (?_ : Sd X 128 [(0, 20), (1, 100), (2, 0), (3, 0)] [20] _)
      refine sd_iload_n hC dX10_spreads_128 rfl (by decide) (?_ : Sd X 129 [(0, 20), (1, 100), (2, 0), (3, 0)] [0, 20] _)
      refine sd_inv0 (τ := []) (τr := [0]) (ci := 10) (q := (RX10, TX10, 45)) hC WG (M_X10_goesThrough _) rfl rfl rfl rfl  rfl rfl wl_7_135 wl_7_137 wp_97 wl_1_10 wl_7_138 hd_X10_goesThrough (by rw [e3]; decide) (by decide) dX10_spreads_129 (?_ : Sd X 132 [(0, 20), (1, 100), (2, 0), (3, 0)] [0] _)
      refine sd_if_ne (tgt := 138) hC dX10_spreads_132 rfl (?_ : Sd X 138 [(0, 20), (1, 100), (2, 0), (3, 0)] [] _) (?_ : Sd X 135 [(0, 20), (1, 100), (2, 0), (3, 0)] [] _)
      · refine sd_bipush hC dX10_spreads_138 (by decide) (?_ : Sd X 140 [(0, 20), (1, 100), (2, 0), (3, 0)] [0] _)
        refine sd_aload_n hC 20 dX10_spreads_140 rfl (by decide) (by decide) (?_ : Sd X 141 [(0, 20), (1, 100), (2, 0), (3, 0)] [20, 0] _)
        refine sd_iload_n hC dX10_spreads_141 rfl (by decide) (?_ : Sd X 142 [(0, 20), (1, 100), (2, 0), (3, 0)] [0, 20, 0] _)
        refine sd_iconst hC dX10_spreads_142 ⟨by decide, by decide⟩ (?_ : Sd X 143 [(0, 20), (1, 100), (2, 0), (3, 0)] [0, 0, 20, 0] _)
        refine sd_inv0 (τ := [0]) (τr := [0, 0]) (ci := 10) (q := (RX10, TX10, 45)) hC WG (M_X10_of _) rfl rfl rfl rfl  rfl rfl wl_7_131 wl_7_133 wp_96 wl_1_10 wl_7_134 hd_X10_of (by rw [e3]; decide) (by decide) dX10_spreads_143 (?_ : Sd X 146 [(0, 20), (1, 100), (2, 0), (3, 0)] [0, 0] _)
        refine sd_imul hC dX10_spreads_146 (?_ : Sd X 147 [(0, 20), (1, 100), (2, 0), (3, 0)] [0] _)
        refine sd_aload_n hC 20 dX10_spreads_147 rfl (by decide) (by decide) (?_ : Sd X 148 [(0, 20), (1, 100), (2, 0), (3, 0)] [20, 0] _)
        refine sd_iload_n hC dX10_spreads_148 rfl (by decide) (?_ : Sd X 149 [(0, 20), (1, 100), (2, 0), (3, 0)] [0, 20, 0] _)
        refine sd_iconst hC dX10_spreads_149 ⟨by decide, by decide⟩ (?_ : Sd X 150 [(0, 20), (1, 100), (2, 0), (3, 0)] [0, 0, 20, 0] _)
        refine sd_inv0 (τ := [0]) (τr := [0, 0]) (ci := 10) (q := (RX10, TX10, 45)) hC WG (M_X10_of _) rfl rfl rfl rfl  rfl rfl wl_7_131 wl_7_133 wp_96 wl_1_10 wl_7_134 hd_X10_of (by rw [e3]; decide) (by decide) dX10_spreads_150 (?_ : Sd X 153 [(0, 20), (1, 100), (2, 0), (3, 0)] [0, 0] _)
        refine sd_iadd hC dX10_spreads_153 (?_ : Sd X 154 [(0, 20), (1, 100), (2, 0), (3, 0)] [0] _)
        refine sd_istore (Γ' := [(0, 20), (1, 100), (2, 0), (3, 0), (4, 0)]) hC dX10_spreads_154 (by rw [e2]; decide) (by decide) (?_ : Sd X 156 [(0, 20), (1, 100), (2, 0), (3, 0), (4, 0)] [] _)
        refine sd_iload_n hC dX10_spreads_156 rfl (by decide) (?_ : Sd X 157 [(0, 20), (1, 100), (2, 0), (3, 0), (4, 0)] [0] _)
        refine sd_aload_n hC 100 dX10_spreads_157 rfl (by decide) (by decide) (?_ : Sd X 158 [(0, 20), (1, 100), (2, 0), (3, 0), (4, 0)] [100, 0] _)
        refine sd_iload hC dX10_spreads_158 (by decide) (?_ : Sd X 160 [(0, 20), (1, 100), (2, 0), (3, 0), (4, 0)] [0, 100, 0] _)
        refine sd_aload_n hC 100 dX10_spreads_160 rfl (by decide) (by decide) (?_ : Sd X 161 [(0, 20), (1, 100), (2, 0), (3, 0), (4, 0)] [100, 0, 100, 0] _)
        refine sd_iload hC dX10_spreads_161 (by decide) (?_ : Sd X 163 [(0, 20), (1, 100), (2, 0), (3, 0), (4, 0)] [0, 100, 0, 100, 0] _)
        refine sd_bipush hC dX10_spreads_163 (by decide) (?_ : Sd X 165 [(0, 20), (1, 100), (2, 0), (3, 0), (4, 0)] [0, 0, 100, 0, 100, 0] _)
        refine sd_iadd hC dX10_spreads_165 (?_ : Sd X 166 [(0, 20), (1, 100), (2, 0), (3, 0), (4, 0)] [0, 100, 0, 100, 0] _)
        refine sd_iaload hC dX10_spreads_166 (?_ : Sd X 167 [(0, 20), (1, 100), (2, 0), (3, 0), (4, 0)] [0, 0, 100, 0] _)
        refine sd_aload_n hC 20 dX10_spreads_167 rfl (by decide) (by decide) (?_ : Sd X 168 [(0, 20), (1, 100), (2, 0), (3, 0), (4, 0)] [20, 0, 0, 100, 0] _)
        refine sd_iload_n hC dX10_spreads_168 rfl (by decide) (?_ : Sd X 169 [(0, 20), (1, 100), (2, 0), (3, 0), (4, 0)] [0, 20, 0, 0, 100, 0] _)
        refine sd_inv0 (τ := [0, 0, 100, 0]) (τr := [0]) (ci := 10) (q := (RX10, TX10, 45)) hC WG (M_X10_hoursAt _) rfl rfl rfl rfl  rfl rfl wl_7_159 wl_7_161 wp_103 wl_1_10 wl_7_162 hd_X10_hoursAt (by rw [e3]; decide) (by decide) dX10_spreads_169 (?_ : Sd X 172 [(0, 20), (1, 100), (2, 0), (3, 0), (4, 0)] [0, 0, 0, 100, 0] _)
        refine sd_iadd hC dX10_spreads_172 (?_ : Sd X 173 [(0, 20), (1, 100), (2, 0), (3, 0), (4, 0)] [0, 0, 100, 0] _)
        refine sd_invs (τ := [0]) (τs := [100, 0, 0]) hC false "" WG (M_X10_lowers _) rfl rfl rfl rfl wl_8_163 wl_8_164 wl_1_10 wl_8_165 hd_X10_lowers (by rw [e3]; decide) (by decide) dX10_spreads_173 (?_ : Sd X 176 [(0, 20), (1, 100), (2, 0), (3, 0), (4, 0)] [0, 0] _)
        refine sd_ior hC dX10_spreads_176 (?_ : Sd X 177 [(0, 20), (1, 100), (2, 0), (3, 0), (4, 0)] [0] _)
        refine sd_istore_n (Γ' := [(0, 20), (1, 100), (2, 0), (3, 0), (4, 0)]) hC dX10_spreads_177 rfl (by rw [e2]; decide) (by decide) (?_ : Sd X 178 [(0, 20), (1, 100), (2, 0), (3, 0), (4, 0)] [] _)
        refine sd_iload_n hC dX10_spreads_178 rfl (by decide) (?_ : Sd X 179 [(0, 20), (1, 100), (2, 0), (3, 0), (4, 0)] [0] _)
        refine sd_aload_n hC 100 dX10_spreads_179 rfl (by decide) (by decide) (?_ : Sd X 180 [(0, 20), (1, 100), (2, 0), (3, 0), (4, 0)] [100, 0] _)
        refine sd_iload hC dX10_spreads_180 (by decide) (?_ : Sd X 182 [(0, 20), (1, 100), (2, 0), (3, 0), (4, 0)] [0, 100, 0] _)
        refine sd_bipush hC dX10_spreads_182 (by decide) (?_ : Sd X 184 [(0, 20), (1, 100), (2, 0), (3, 0), (4, 0)] [0, 0, 100, 0] _)
        refine sd_iadd hC dX10_spreads_184 (?_ : Sd X 185 [(0, 20), (1, 100), (2, 0), (3, 0), (4, 0)] [0, 100, 0] _)
        refine sd_aload_n hC 100 dX10_spreads_185 rfl (by decide) (by decide) (?_ : Sd X 186 [(0, 20), (1, 100), (2, 0), (3, 0), (4, 0)] [100, 0, 100, 0] _)
        refine sd_iload hC dX10_spreads_186 (by decide) (?_ : Sd X 188 [(0, 20), (1, 100), (2, 0), (3, 0), (4, 0)] [0, 100, 0, 100, 0] _)
        refine sd_iaload hC dX10_spreads_188 (?_ : Sd X 189 [(0, 20), (1, 100), (2, 0), (3, 0), (4, 0)] [0, 0, 100, 0] _)
        refine sd_aload_n hC 20 dX10_spreads_189 rfl (by decide) (by decide) (?_ : Sd X 190 [(0, 20), (1, 100), (2, 0), (3, 0), (4, 0)] [20, 0, 0, 100, 0] _)
        refine sd_iload_n hC dX10_spreads_190 rfl (by decide) (?_ : Sd X 191 [(0, 20), (1, 100), (2, 0), (3, 0), (4, 0)] [0, 20, 0, 0, 100, 0] _)
        refine sd_inv0 (τ := [0, 0, 100, 0]) (τr := [0]) (ci := 10) (q := (RX10, TX10, 45)) hC WG (M_X10_hoursAt _) rfl rfl rfl rfl  rfl rfl wl_7_159 wl_7_161 wp_103 wl_1_10 wl_7_162 hd_X10_hoursAt (by rw [e3]; decide) (by decide) dX10_spreads_191 (?_ : Sd X 194 [(0, 20), (1, 100), (2, 0), (3, 0), (4, 0)] [0, 0, 0, 100, 0] _)
        refine sd_iadd hC dX10_spreads_194 (?_ : Sd X 195 [(0, 20), (1, 100), (2, 0), (3, 0), (4, 0)] [0, 0, 100, 0] _)
        refine sd_invs (τ := [0]) (τs := [100, 0, 0]) hC false "" WG (M_X10_lowers _) rfl rfl rfl rfl wl_8_163 wl_8_164 wl_1_10 wl_8_165 hd_X10_lowers (by rw [e3]; decide) (by decide) dX10_spreads_195 (?_ : Sd X 198 [(0, 20), (1, 100), (2, 0), (3, 0), (4, 0)] [0, 0] _)
        refine sd_ior hC dX10_spreads_198 (?_ : Sd X 199 [(0, 20), (1, 100), (2, 0), (3, 0), (4, 0)] [0] _)
        refine sd_istore_n (Γ' := [(0, 20), (1, 100), (2, 0), (3, 0), (4, 0)]) hC dX10_spreads_199 rfl (by rw [e2]; decide) (by decide) (?_ : Sd X 200 [(0, 20), (1, 100), (2, 0), (3, 0), (4, 0)] [] _)
        exact Sd.weak (by decide) (S_200 k2 h2 k119 h119)
      · refine sd_goto (tgt := 200) hC dX10_spreads_135 rfl (?_ : Sd X 200 [(0, 20), (1, 100), (2, 0), (3, 0)] [] _)
        exact Sd.weak (by decide) (S_200 k2 h2 k119 h119)
  have S_111 : ∀ (k2 : tK), Sd X 2 [(0, 20), (1, 100), (2, 0)] [] k2 → ∀ (k10 : tK), Sd X 10 [(0, 20), (1, 100), (2, 0), (3, 0)] [] k10 → Sd X 111 [(0, 20), (1, 100), (2, 0), (3, 0)] [] (B_X10_spreads_111 Q k2 k10) := by
    intro k2 h2 k10 h10
    unfold B_X10_spreads_111
    refine sd_iinc (Γ' := [(0, 20), (1, 100), (2, 0), (3, 0)]) hC dX10_spreads_111 (by decide) (by rw [e2]; decide) (by decide) (?_ : Sd X 114 [(0, 20), (1, 100), (2, 0), (3, 0)] [] _)
    refine sd_goto (tgt := 10) hC dX10_spreads_114 rfl (?_ : Sd X 10 [(0, 20), (1, 100), (2, 0), (3, 0)] [] _)
    exact Sd.weak (by decide) h10
  have S_35 : ∀ (k2 : tK), Sd X 2 [(0, 20), (1, 100), (2, 0)] [] k2 → ∀ (k10 : tK), Sd X 10 [(0, 20), (1, 100), (2, 0), (3, 0)] [] k10 → Sd X 35 [(0, 20), (1, 100), (2, 0), (3, 0), (4, 0)] [] (L_X10_spreads_35 Q k2 k10) := by
    intro k2 h2 k10 h10
    unfold L_X10_spreads_35
    refine Sd.loop (fun k35 h35 => ?_)
    refine sd_iload hC dX10_spreads_35 (by decide) (?_ : Sd X 37 [(0, 20), (1, 100), (2, 0), (3, 0), (4, 0)] [0] _)
    refine sd_bipush hC dX10_spreads_37 (by decide) (?_ : Sd X 39 [(0, 20), (1, 100), (2, 0), (3, 0), (4, 0)] [0, 0] _)
    refine sd_icmp_ge (tgt := 111) hC dX10_spreads_39 rfl (?_ : Sd X 111 [(0, 20), (1, 100), (2, 0), (3, 0), (4, 0)] [] _) (?_ : Sd X 42 [(0, 20), (1, 100), (2, 0), (3, 0), (4, 0)] [] _)
    · exact Sd.weak (by decide) (S_111 k2 h2 k10 h10)
    · refine sd_iload_n hC dX10_spreads_42 rfl (by decide) (?_ : Sd X 43 [(0, 20), (1, 100), (2, 0), (3, 0), (4, 0)] [0] _)
      refine sd_aload_n hC 100 dX10_spreads_43 rfl (by decide) (by decide) (?_ : Sd X 44 [(0, 20), (1, 100), (2, 0), (3, 0), (4, 0)] [100, 0] _)
      refine sd_bipush hC dX10_spreads_44 (by decide) (?_ : Sd X 46 [(0, 20), (1, 100), (2, 0), (3, 0), (4, 0)] [0, 100, 0] _)
      refine sd_iload_n hC dX10_spreads_46 rfl (by decide) (?_ : Sd X 47 [(0, 20), (1, 100), (2, 0), (3, 0), (4, 0)] [0, 0, 100, 0] _)
      refine sd_imul hC dX10_spreads_47 (?_ : Sd X 48 [(0, 20), (1, 100), (2, 0), (3, 0), (4, 0)] [0, 100, 0] _)
      refine sd_iload hC dX10_spreads_48 (by decide) (?_ : Sd X 50 [(0, 20), (1, 100), (2, 0), (3, 0), (4, 0)] [0, 0, 100, 0] _)
      refine sd_iadd hC dX10_spreads_50 (?_ : Sd X 51 [(0, 20), (1, 100), (2, 0), (3, 0), (4, 0)] [0, 100, 0] _)
      refine sd_aload_n hC 100 dX10_spreads_51 rfl (by decide) (by decide) (?_ : Sd X 52 [(0, 20), (1, 100), (2, 0), (3, 0), (4, 0)] [100, 0, 100, 0] _)
      refine sd_bipush hC dX10_spreads_52 (by decide) (?_ : Sd X 54 [(0, 20), (1, 100), (2, 0), (3, 0), (4, 0)] [0, 100, 0, 100, 0] _)
      refine sd_iload_n hC dX10_spreads_54 rfl (by decide) (?_ : Sd X 55 [(0, 20), (1, 100), (2, 0), (3, 0), (4, 0)] [0, 0, 100, 0, 100, 0] _)
      refine sd_imul hC dX10_spreads_55 (?_ : Sd X 56 [(0, 20), (1, 100), (2, 0), (3, 0), (4, 0)] [0, 100, 0, 100, 0] _)
      refine sd_iload hC dX10_spreads_56 (by decide) (?_ : Sd X 58 [(0, 20), (1, 100), (2, 0), (3, 0), (4, 0)] [0, 0, 100, 0, 100, 0] _)
      refine sd_iconst hC dX10_spreads_58 ⟨by decide, by decide⟩ (?_ : Sd X 59 [(0, 20), (1, 100), (2, 0), (3, 0), (4, 0)] [0, 0, 0, 100, 0, 100, 0] _)
      refine sd_iadd hC dX10_spreads_59 (?_ : Sd X 60 [(0, 20), (1, 100), (2, 0), (3, 0), (4, 0)] [0, 0, 100, 0, 100, 0] _)
      refine sd_bipush hC dX10_spreads_60 (by decide) (?_ : Sd X 62 [(0, 20), (1, 100), (2, 0), (3, 0), (4, 0)] [0, 0, 0, 100, 0, 100, 0] _)
      refine sd_irem hC dX10_spreads_62 (?_ : Sd X 63 [(0, 20), (1, 100), (2, 0), (3, 0), (4, 0)] [0, 0, 100, 0, 100, 0] _)
      refine sd_iadd hC dX10_spreads_63 (?_ : Sd X 64 [(0, 20), (1, 100), (2, 0), (3, 0), (4, 0)] [0, 100, 0, 100, 0] _)
      refine sd_iaload hC dX10_spreads_64 (?_ : Sd X 65 [(0, 20), (1, 100), (2, 0), (3, 0), (4, 0)] [0, 0, 100, 0] _)
      refine sd_iconst hC dX10_spreads_65 ⟨by decide, by decide⟩ (?_ : Sd X 66 [(0, 20), (1, 100), (2, 0), (3, 0), (4, 0)] [0, 0, 0, 100, 0] _)
      refine sd_iadd hC dX10_spreads_66 (?_ : Sd X 67 [(0, 20), (1, 100), (2, 0), (3, 0), (4, 0)] [0, 0, 100, 0] _)
      refine sd_invs (τ := [0]) (τs := [100, 0, 0]) hC false "" WG (M_X10_lowers _) rfl rfl rfl rfl wl_8_163 wl_8_164 wl_1_10 wl_8_165 hd_X10_lowers (by rw [e3]; decide) (by decide) dX10_spreads_67 (?_ : Sd X 70 [(0, 20), (1, 100), (2, 0), (3, 0), (4, 0)] [0, 0] _)
      refine sd_ior hC dX10_spreads_70 (?_ : Sd X 71 [(0, 20), (1, 100), (2, 0), (3, 0), (4, 0)] [0] _)
      refine sd_istore_n (Γ' := [(0, 20), (1, 100), (2, 0), (3, 0), (4, 0)]) hC dX10_spreads_71 rfl (by rw [e2]; decide) (by decide) (?_ : Sd X 72 [(0, 20), (1, 100), (2, 0), (3, 0), (4, 0)] [] _)
      refine sd_iload_n hC dX10_spreads_72 rfl (by decide) (?_ : Sd X 73 [(0, 20), (1, 100), (2, 0), (3, 0), (4, 0)] [0] _)
      refine sd_aload_n hC 100 dX10_spreads_73 rfl (by decide) (by decide) (?_ : Sd X 74 [(0, 20), (1, 100), (2, 0), (3, 0), (4, 0)] [100, 0] _)
      refine sd_bipush hC dX10_spreads_74 (by decide) (?_ : Sd X 76 [(0, 20), (1, 100), (2, 0), (3, 0), (4, 0)] [0, 100, 0] _)
      refine sd_iload_n hC dX10_spreads_76 rfl (by decide) (?_ : Sd X 77 [(0, 20), (1, 100), (2, 0), (3, 0), (4, 0)] [0, 0, 100, 0] _)
      refine sd_imul hC dX10_spreads_77 (?_ : Sd X 78 [(0, 20), (1, 100), (2, 0), (3, 0), (4, 0)] [0, 100, 0] _)
      refine sd_iload hC dX10_spreads_78 (by decide) (?_ : Sd X 80 [(0, 20), (1, 100), (2, 0), (3, 0), (4, 0)] [0, 0, 100, 0] _)
      refine sd_iadd hC dX10_spreads_80 (?_ : Sd X 81 [(0, 20), (1, 100), (2, 0), (3, 0), (4, 0)] [0, 100, 0] _)
      refine sd_aload_n hC 100 dX10_spreads_81 rfl (by decide) (by decide) (?_ : Sd X 82 [(0, 20), (1, 100), (2, 0), (3, 0), (4, 0)] [100, 0, 100, 0] _)
      refine sd_bipush hC dX10_spreads_82 (by decide) (?_ : Sd X 84 [(0, 20), (1, 100), (2, 0), (3, 0), (4, 0)] [0, 100, 0, 100, 0] _)
      refine sd_iload_n hC dX10_spreads_84 rfl (by decide) (?_ : Sd X 85 [(0, 20), (1, 100), (2, 0), (3, 0), (4, 0)] [0, 0, 100, 0, 100, 0] _)
      refine sd_imul hC dX10_spreads_85 (?_ : Sd X 86 [(0, 20), (1, 100), (2, 0), (3, 0), (4, 0)] [0, 100, 0, 100, 0] _)
      refine sd_iload hC dX10_spreads_86 (by decide) (?_ : Sd X 88 [(0, 20), (1, 100), (2, 0), (3, 0), (4, 0)] [0, 0, 100, 0, 100, 0] _)
      refine sd_bipush hC dX10_spreads_88 (by decide) (?_ : Sd X 90 [(0, 20), (1, 100), (2, 0), (3, 0), (4, 0)] [0, 0, 0, 100, 0, 100, 0] _)
      refine sd_iadd hC dX10_spreads_90 (?_ : Sd X 91 [(0, 20), (1, 100), (2, 0), (3, 0), (4, 0)] [0, 0, 100, 0, 100, 0] _)
      refine sd_iconst hC dX10_spreads_91 ⟨by decide, by decide⟩ (?_ : Sd X 92 [(0, 20), (1, 100), (2, 0), (3, 0), (4, 0)] [0, 0, 0, 100, 0, 100, 0] _)
      refine sd_isub hC dX10_spreads_92 (?_ : Sd X 93 [(0, 20), (1, 100), (2, 0), (3, 0), (4, 0)] [0, 0, 100, 0, 100, 0] _)
      refine sd_bipush hC dX10_spreads_93 (by decide) (?_ : Sd X 95 [(0, 20), (1, 100), (2, 0), (3, 0), (4, 0)] [0, 0, 0, 100, 0, 100, 0] _)
      refine sd_irem hC dX10_spreads_95 (?_ : Sd X 96 [(0, 20), (1, 100), (2, 0), (3, 0), (4, 0)] [0, 0, 100, 0, 100, 0] _)
      refine sd_iadd hC dX10_spreads_96 (?_ : Sd X 97 [(0, 20), (1, 100), (2, 0), (3, 0), (4, 0)] [0, 100, 0, 100, 0] _)
      refine sd_iaload hC dX10_spreads_97 (?_ : Sd X 98 [(0, 20), (1, 100), (2, 0), (3, 0), (4, 0)] [0, 0, 100, 0] _)
      refine sd_iconst hC dX10_spreads_98 ⟨by decide, by decide⟩ (?_ : Sd X 99 [(0, 20), (1, 100), (2, 0), (3, 0), (4, 0)] [0, 0, 0, 100, 0] _)
      refine sd_iadd hC dX10_spreads_99 (?_ : Sd X 100 [(0, 20), (1, 100), (2, 0), (3, 0), (4, 0)] [0, 0, 100, 0] _)
      refine sd_invs (τ := [0]) (τs := [100, 0, 0]) hC false "" WG (M_X10_lowers _) rfl rfl rfl rfl wl_8_163 wl_8_164 wl_1_10 wl_8_165 hd_X10_lowers (by rw [e3]; decide) (by decide) dX10_spreads_100 (?_ : Sd X 103 [(0, 20), (1, 100), (2, 0), (3, 0), (4, 0)] [0, 0] _)
      refine sd_ior hC dX10_spreads_103 (?_ : Sd X 104 [(0, 20), (1, 100), (2, 0), (3, 0), (4, 0)] [0] _)
      refine sd_istore_n (Γ' := [(0, 20), (1, 100), (2, 0), (3, 0), (4, 0)]) hC dX10_spreads_104 rfl (by rw [e2]; decide) (by decide) (?_ : Sd X 105 [(0, 20), (1, 100), (2, 0), (3, 0), (4, 0)] [] _)
      refine sd_iinc (Γ' := [(0, 20), (1, 100), (2, 0), (3, 0), (4, 0)]) hC dX10_spreads_105 (by decide) (by rw [e2]; decide) (by decide) (?_ : Sd X 108 [(0, 20), (1, 100), (2, 0), (3, 0), (4, 0)] [] _)
      refine sd_goto (tgt := 35) hC dX10_spreads_108 rfl (?_ : Sd X 35 [(0, 20), (1, 100), (2, 0), (3, 0), (4, 0)] [] _)
      exact Sd.weak (by decide) h35
  have S_10 : ∀ (k2 : tK), Sd X 2 [(0, 20), (1, 100), (2, 0)] [] k2 → Sd X 10 [(0, 20), (1, 100), (2, 0), (3, 0)] [] (L_X10_spreads_10 Q k2) := by
    intro k2 h2
    unfold L_X10_spreads_10
    refine Sd.loop (fun k10 h10 => ?_)
    refine sd_iload_n hC dX10_spreads_10 rfl (by decide) (?_ : Sd X 11 [(0, 20), (1, 100), (2, 0), (3, 0)] [0] _)
    refine sd_aload_n hC 20 dX10_spreads_11 rfl (by decide) (by decide) (?_ : Sd X 12 [(0, 20), (1, 100), (2, 0), (3, 0)] [20, 0] _)
    refine sd_get hC (ci := 10) (j := 3) (C := RX10) (T := TX10) (N := 45) rfl rfl (by decide) in_X10 wl_5_167 dX10_spreads_12 (?_ : Sd X 15 [(0, 20), (1, 100), (2, 0), (3, 0)] [19, 0] _)
    refine sd_getN hC (ci := 9) (j := 0) (C := RX9) (T := TX9) (N := 28) (host := "NarrowRingsModel") rfl rfl (by decide) in_X9 (by decide) dX10_spreads_15 (?_ : Sd X 18 [(0, 20), (1, 100), (2, 0), (3, 0)] [0, 0] _)
    refine sd_icmp_ge (tgt := 117) hC dX10_spreads_18 rfl (?_ : Sd X 117 [(0, 20), (1, 100), (2, 0), (3, 0)] [] _) (?_ : Sd X 21 [(0, 20), (1, 100), (2, 0), (3, 0)] [] _)
    · refine sd_iconst hC dX10_spreads_117 ⟨by decide, by decide⟩ (?_ : Sd X 118 [(0, 20), (1, 100), (2, 0), (3, 0)] [0] _)
      refine sd_istore_n (Γ' := [(0, 20), (1, 100), (2, 0), (3, 0)]) hC dX10_spreads_118 rfl (by rw [e2]; decide) (by decide) (?_ : Sd X 119 [(0, 20), (1, 100), (2, 0), (3, 0)] [] _)
      exact Sd.weak (by decide) (S_119 k2 h2)
    · refine sd_aload_n hC 20 dX10_spreads_21 rfl (by decide) (by decide) (?_ : Sd X 22 [(0, 20), (1, 100), (2, 0), (3, 0)] [20] _)
      refine sd_iload_n hC dX10_spreads_22 rfl (by decide) (?_ : Sd X 23 [(0, 20), (1, 100), (2, 0), (3, 0)] [0, 20] _)
      refine sd_inv0 (τ := []) (τr := [0]) (ci := 10) (q := (RX10, TX10, 45)) hC WG (M_X10_fitsRing _) rfl rfl rfl rfl  rfl rfl wl_7_118 wl_7_120 wp_93 wl_1_10 wl_7_121 hd_X10_fitsRing (by rw [e3]; decide) (by decide) dX10_spreads_23 (?_ : Sd X 26 [(0, 20), (1, 100), (2, 0), (3, 0)] [0] _)
      refine sd_if_ne (tgt := 32) hC dX10_spreads_26 rfl (?_ : Sd X 32 [(0, 20), (1, 100), (2, 0), (3, 0)] [] _) (?_ : Sd X 29 [(0, 20), (1, 100), (2, 0), (3, 0)] [] _)
      · refine sd_iconst hC dX10_spreads_32 ⟨by decide, by decide⟩ (?_ : Sd X 33 [(0, 20), (1, 100), (2, 0), (3, 0)] [0] _)
        refine sd_istore (Γ' := [(0, 20), (1, 100), (2, 0), (3, 0), (4, 0)]) hC dX10_spreads_33 (by rw [e2]; decide) (by decide) (?_ : Sd X 35 [(0, 20), (1, 100), (2, 0), (3, 0), (4, 0)] [] _)
        exact Sd.weak (by decide) (S_35 k2 h2 k10 h10)
      · refine sd_goto (tgt := 111) hC dX10_spreads_29 rfl (?_ : Sd X 111 [(0, 20), (1, 100), (2, 0), (3, 0)] [] _)
        exact Sd.weak (by decide) (S_111 k2 h2 k10 h10)
  have S_2 : Sd X 2 [(0, 20), (1, 100), (2, 0)] [] (L_X10_spreads_2 Q) := by
    unfold L_X10_spreads_2
    refine Sd.loop (fun k2 h2 => ?_)
    refine sd_iload_n hC dX10_spreads_2 rfl (by decide) (?_ : Sd X 3 [(0, 20), (1, 100), (2, 0)] [0] _)
    refine sd_if_eq (tgt := 209) hC dX10_spreads_3 rfl (?_ : Sd X 209 [(0, 20), (1, 100), (2, 0)] [] _) (?_ : Sd X 6 [(0, 20), (1, 100), (2, 0)] [] _)
    · exact sd_return hC hT dX10_spreads_209
    · refine sd_iconst hC dX10_spreads_6 ⟨by decide, by decide⟩ (?_ : Sd X 7 [(0, 20), (1, 100), (2, 0)] [0] _)
      refine sd_istore_n (Γ' := [(0, 20), (1, 100), (2, 0)]) hC dX10_spreads_7 rfl (by rw [e2]; decide) (by decide) (?_ : Sd X 8 [(0, 20), (1, 100), (2, 0)] [] _)
      refine sd_iconst hC dX10_spreads_8 ⟨by decide, by decide⟩ (?_ : Sd X 9 [(0, 20), (1, 100), (2, 0)] [0] _)
      refine sd_istore_n (Γ' := [(0, 20), (1, 100), (2, 0), (3, 0)]) hC dX10_spreads_9 rfl (by rw [e2]; decide) (by decide) (?_ : Sd X 10 [(0, 20), (1, 100), (2, 0), (3, 0)] [] _)
      exact Sd.weak (by decide) (S_10 k2 h2)
  refine (?_ : Sd X 0 [(0, 20), (1, 100)] [] (E_X10_spreads Q))
  unfold E_X10_spreads
  refine sd_iconst hC dX10_spreads_0 ⟨by decide, by decide⟩ (?_ : Sd X 1 [(0, 20), (1, 100)] [0] _)
  refine sd_istore_n (Γ' := [(0, 20), (1, 100), (2, 0)]) hC dX10_spreads_1 rfl (by rw [e2]; decide) (by decide) (?_ : Sd X 2 [(0, 20), (1, 100), (2, 0)] [] _)
  exact Sd.weak (by decide) (S_2)
theorem hd_X10_stand : yX10_stand.cls ≠ "java/lang/invoke/MethodHandle" ∧ yX10_stand.cls ≠ "java/lang/invoke/VarHandle" ∧ (parseMethodDescriptor yX10_stand.desc).map (fun d => d.parameters.length) = some 0 := by decide +kernel
set_option maxRecDepth 100000 in
set_option maxHeartbeats 4000000 in
theorem M_X10_stand (l : Launch) : Mt l yX10_stand (Cond.code yX10_stand cX10_stand 3 (some .int) :: WALL) { frames := 1, cells := 0, slots := 0, locals := 24 } [20] (some 0) T_X10_stand := by
  refine Mt.mk (B := E_X10_stand) (by decide +kernel) (by decide) (fun _ _ _ hh => hh) ?_
  intro X Q e1 e2 e3 hC hN hT
  subst e1
  have hC : CF X cX10_stand RX10 WALL := hC
  have S_48 : ∀ (k22 : tK), Sd X 22 [(0, 20), (1, 0), (2, 0)] [] k22 → Sd X 48 [(0, 20), (1, 0), (2, 0)] [] (B_X10_stand_48 Q k22) := by
    intro k22 h22
    unfold B_X10_stand_48
    refine sd_iinc (Γ' := [(0, 20), (1, 0), (2, 0)]) hC dX10_stand_48 (by decide) (by rw [e2]; decide) (by decide) (?_ : Sd X 51 [(0, 20), (1, 0), (2, 0)] [] _)
    refine sd_goto (tgt := 22) hC dX10_stand_51 rfl (?_ : Sd X 22 [(0, 20), (1, 0), (2, 0)] [] _)
    exact Sd.weak (by decide) h22
  have S_22 : Sd X 22 [(0, 20), (1, 0), (2, 0)] [] (L_X10_stand_22 Q) := by
    unfold L_X10_stand_22
    refine Sd.loop (fun k22 h22 => ?_)
    refine sd_iload_n hC dX10_stand_22 rfl (by decide) (?_ : Sd X 23 [(0, 20), (1, 0), (2, 0)] [0] _)
    refine sd_aload_n hC 20 dX10_stand_23 rfl (by decide) (by decide) (?_ : Sd X 24 [(0, 20), (1, 0), (2, 0)] [20, 0] _)
    refine sd_get hC (ci := 10) (j := 3) (C := RX10) (T := TX10) (N := 45) rfl rfl (by decide) in_X10 wl_5_167 dX10_stand_24 (?_ : Sd X 27 [(0, 20), (1, 0), (2, 0)] [19, 0] _)
    refine sd_getN hC (ci := 9) (j := 0) (C := RX9) (T := TX9) (N := 28) (host := "NarrowRingsModel") rfl rfl (by decide) in_X9 (by decide) dX10_stand_27 (?_ : Sd X 30 [(0, 20), (1, 0), (2, 0)] [0, 0] _)
    refine sd_icmp_ge (tgt := 54) hC dX10_stand_30 rfl (?_ : Sd X 54 [(0, 20), (1, 0), (2, 0)] [] _) (?_ : Sd X 33 [(0, 20), (1, 0), (2, 0)] [] _)
    · refine sd_aload_n hC 20 dX10_stand_54 rfl (by decide) (by decide) (?_ : Sd X 55 [(0, 20), (1, 0), (2, 0)] [20] _)
      refine sd_iload_n hC dX10_stand_55 rfl (by decide) (?_ : Sd X 56 [(0, 20), (1, 0), (2, 0)] [0, 20] _)
      refine sd_inv0 (τ := []) (τr := [0]) (ci := 10) (q := (RX10, TX10, 45)) hC WG (M_X10_good _) rfl rfl rfl rfl  rfl rfl wl_7_171 wl_7_173 wp_105 wl_1_10 wl_7_174 hd_X10_good (by rw [e3]; decide) (by decide) dX10_stand_56 (?_ : Sd X 59 [(0, 20), (1, 0), (2, 0)] [0] _)
      exact sd_ireturn hC hT dX10_stand_59
    · refine sd_aload_n hC 20 dX10_stand_33 rfl (by decide) (by decide) (?_ : Sd X 34 [(0, 20), (1, 0), (2, 0)] [20] _)
      refine sd_iload_n hC dX10_stand_34 rfl (by decide) (?_ : Sd X 35 [(0, 20), (1, 0), (2, 0)] [0, 20] _)
      refine sd_inv0 (τ := []) (τr := [0]) (ci := 10) (q := (RX10, TX10, 45)) hC WG (M_X10_holds _) rfl rfl rfl rfl  rfl rfl wl_8_146 wl_8_148 wp_128 wl_1_10 wl_8_149 hd_X10_holds (by rw [e3]; decide) (by decide) dX10_stand_35 (?_ : Sd X 38 [(0, 20), (1, 0), (2, 0)] [0] _)
      refine sd_aload_n hC 20 dX10_stand_38 rfl (by decide) (by decide) (?_ : Sd X 39 [(0, 20), (1, 0), (2, 0)] [20, 0] _)
      refine sd_iload_n hC dX10_stand_39 rfl (by decide) (?_ : Sd X 40 [(0, 20), (1, 0), (2, 0)] [0, 20, 0] _)
      refine sd_inv0 (τ := [0]) (τr := [0]) (ci := 10) (q := (RX10, TX10, 45)) hC WG (M_X10_holds _) rfl rfl rfl rfl  rfl rfl wl_8_146 wl_8_148 wp_128 wl_1_10 wl_8_149 hd_X10_holds (by rw [e3]; decide) (by decide) dX10_stand_40 (?_ : Sd X 43 [(0, 20), (1, 0), (2, 0)] [0, 0] _)
      refine sd_icmp_lt (tgt := 48) hC dX10_stand_43 rfl (?_ : Sd X 48 [(0, 20), (1, 0), (2, 0)] [] _) (?_ : Sd X 46 [(0, 20), (1, 0), (2, 0)] [] _)
      · exact Sd.weak (by decide) (S_48 k22 h22)
      · refine sd_iload_n hC dX10_stand_46 rfl (by decide) (?_ : Sd X 47 [(0, 20), (1, 0), (2, 0)] [0] _)
        refine sd_istore_n (Γ' := [(0, 20), (1, 0), (2, 0)]) hC dX10_stand_47 rfl (by rw [e2]; decide) (by decide) (?_ : Sd X 48 [(0, 20), (1, 0), (2, 0)] [] _)
        exact Sd.weak (by decide) (S_48 k22 h22)
  refine (?_ : Sd X 0 [(0, 20)] [] (E_X10_stand Q))
  unfold E_X10_stand
  refine sd_aload_n hC 20 dX10_stand_0 rfl (by decide) (by decide) (?_ : Sd X 1 [(0, 20)] [20] _)
  refine sd_iconst hC dX10_stand_1 ⟨by decide, by decide⟩ (?_ : Sd X 2 [(0, 20)] [0, 20] _)
  refine sd_put hC (ci := 10) (j := 0) (C := RX10) (T := TX10) (N := 45) tyX10 tyX10_ok nmX10 rfl rfl (by decide) in_X10 rfl rfl wl_5_164 dX10_stand_2 (?_ : Sd X 5 [(0, 20)] [] _)
  refine sd_aload_n hC 20 dX10_stand_5 rfl (by decide) (by decide) (?_ : Sd X 6 [(0, 20)] [20] _)
  refine sd_get hC (ci := 10) (j := 3) (C := RX10) (T := TX10) (N := 45) rfl rfl (by decide) in_X10 wl_5_167 dX10_stand_6 (?_ : Sd X 9 [(0, 20)] [19] _)
  refine sd_ifnonnull (tgt := 18) hC (by decide) dX10_stand_9 rfl (?_ : Sd X 18 [(0, 20)] [] _) (?_ : Sd X 12 [(0, 20)] [] _)
  · refine sd_iconst hC dX10_stand_18 ⟨by decide, by decide⟩ (?_ : Sd X 19 [(0, 20)] [0] _)
    refine sd_istore_n (Γ' := [(0, 20), (1, 0)]) hC dX10_stand_19 rfl (by rw [e2]; decide) (by decide) (?_ : Sd X 20 [(0, 20), (1, 0)] [] _)
    refine sd_iconst hC dX10_stand_20 ⟨by decide, by decide⟩ (?_ : Sd X 21 [(0, 20), (1, 0)] [0] _)
    refine sd_istore_n (Γ' := [(0, 20), (1, 0), (2, 0)]) hC dX10_stand_21 rfl (by rw [e2]; decide) (by decide) (?_ : Sd X 22 [(0, 20), (1, 0), (2, 0)] [] _)
    exact Sd.weak (by decide) (S_22)
  · refine sd_aload_n hC 20 dX10_stand_12 rfl (by decide) (by decide) (?_ : Sd X 13 [(0, 20)] [20] _)
    refine sd_iconst hC dX10_stand_13 ⟨by decide, by decide⟩ (?_ : Sd X 14 [(0, 20)] [0, 20] _)
    refine sd_inv0 (τ := []) (τr := [0]) (ci := 10) (q := (RX10, TX10, 45)) hC WG (M_X10_refused _) rfl rfl rfl rfl  rfl rfl wl_6_72 wl_6_74 wp_63 wl_1_10 wl_6_75 hd_X10_refused (by rw [e3]; decide) (by decide) dX10_stand_14 (?_ : Sd X 17 [(0, 20)] [0] _)
    exact sd_ireturn hC hT dX10_stand_17

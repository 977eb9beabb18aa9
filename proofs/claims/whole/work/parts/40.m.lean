theorem wl_2_82 : Cond.fieldLink RX0 14 "NarrowRings$Acts" "count" "I" ∈ WALL := tb2 (List.mem_of_getElem? (i := 82) rfl) rfl
theorem wl_2_84 : Cond.fieldLink RX0 11 "NarrowRings$Acts" "row" "[[I" ∈ WALL := tb2 (List.mem_of_getElem? (i := 84) rfl) rfl
theorem wl_5_64 : Cond.methodLink RX0 29 (⟨"java/lang/System", "arraycopy", "(Ljava/lang/Object;ILjava/lang/Object;II)V"⟩ : MethodName) ∈ WALL := tb5 (List.mem_of_getElem? (i := 64) rfl) rfl
theorem wl_4_217 : Cond.native arraycopyName ∈ WALL := tb4 (List.mem_of_getElem? (i := 217) rfl) rfl
theorem wl_4_216 : Cond.static arraycopyName ∈ WALL := tb4 (List.mem_of_getElem? (i := 216) rfl) rfl
theorem wl_1_18 : Cond.initialized RJ10 ∈ WALL := tb1 (List.mem_of_getElem? (i := 18) rfl) rfl
theorem hd_X0_forgetOldest : yX0_forgetOldest.cls ≠ "java/lang/invoke/MethodHandle" ∧ yX0_forgetOldest.cls ≠ "java/lang/invoke/VarHandle" ∧ (parseMethodDescriptor yX0_forgetOldest.desc).map (fun d => d.parameters.length) = some 0 := by decide +kernel
set_option maxRecDepth 100000 in
set_option maxHeartbeats 4000000 in
theorem M_X0_forgetOldest (l : Launch) : MtS l yX0_forgetOldest (Cond.code yX0_forgetOldest cX0_forgetOldest 2 none :: WALL) { frames := 1, cells := 0, slots := 0, locals := 26 } [10] none T_X0_forgetOldest := by
  refine MtS.mk (B := E_X0_forgetOldest) (by decide +kernel) (by decide) (fun _ _ _ hh => hh) ?_
  intro X Q e1 e2 e3 hC hN hT
  subst e1
  have hC : CF X cX0_forgetOldest RX0 WALL := hC
  have S_2 : SdS X 2 [(0, 10), (1, 0)] [] (L_X0_forgetOldest_2 Q) := by
    unfold L_X0_forgetOldest_2
    refine SdS.loop (fun k2 h2 => ?_)
    refine su_iload_n hC dX0_forgetOldest_2 rfl (by decide) (?_ : SdS X 3 [(0, 10), (1, 0)] [0] _)
    refine su_bipush hC dX0_forgetOldest_3 (by decide) (?_ : SdS X 5 [(0, 10), (1, 0)] [0, 0] _)
    refine su_icmp_ge (tgt := 34) hC dX0_forgetOldest_5 rfl (?_ : SdS X 34 [(0, 10), (1, 0)] [] _) (?_ : SdS X 8 [(0, 10), (1, 0)] [] _)
    · refine su_aload_n hC 10 dX0_forgetOldest_34 rfl (by decide) (by decide) (?_ : SdS X 35 [(0, 10), (1, 0)] [10] _)
      refine su_bipush hC dX0_forgetOldest_35 (by decide) (?_ : SdS X 37 [(0, 10), (1, 0)] [0, 10] _)
      refine su_putF hC (ci := 0) (j := 0) (C := RX0) (T := TX0) (N := 2) tyX0 tyX0_ok nmX0 rfl rfl (by decide) in_X0 rfl rfl wl_2_82 rfl dX0_forgetOldest_37 (?_ : SdS X 40 [(0, 10), (1, 0)] [] _)
      exact su_return hC hT dX0_forgetOldest_40
    · refine su_aload_n hC 10 dX0_forgetOldest_8 rfl (by decide) (by decide) (?_ : SdS X 9 [(0, 10), (1, 0)] [10] _)
      refine su_getR hC (ci := 0) (j := 1) (C := RX0) (T := TX0) (N := 2) rfl rfl (by decide) in_X0 wl_2_84 rfl dX0_forgetOldest_9 (?_ : SdS X 12 [(0, 10), (1, 0)] [200] _)
      refine su_iload_n hC dX0_forgetOldest_12 rfl (by decide) (?_ : SdS X 13 [(0, 10), (1, 0)] [0, 200] _)
      refine su_aaload (e := 100) hC (List.mem_of_getElem? (i := 7) rfl) rfl rfl rfl dX0_forgetOldest_13 (?_ : SdS X 14 [(0, 10), (1, 0)] [100] _)
      refine su_iconst hC dX0_forgetOldest_14 ⟨by decide, by decide⟩ (?_ : SdS X 15 [(0, 10), (1, 0)] [0, 100] _)
      refine su_aload_n hC 10 dX0_forgetOldest_15 rfl (by decide) (by decide) (?_ : SdS X 16 [(0, 10), (1, 0)] [10, 0, 100] _)
      refine su_getR hC (ci := 0) (j := 1) (C := RX0) (T := TX0) (N := 2) rfl rfl (by decide) in_X0 wl_2_84 rfl dX0_forgetOldest_16 (?_ : SdS X 19 [(0, 10), (1, 0)] [200, 0, 100] _)
      refine su_iload_n hC dX0_forgetOldest_19 rfl (by decide) (?_ : SdS X 20 [(0, 10), (1, 0)] [0, 200, 0, 100] _)
      refine su_iconst hC dX0_forgetOldest_20 ⟨by decide, by decide⟩ (?_ : SdS X 21 [(0, 10), (1, 0)] [0, 0, 200, 0, 100] _)
      refine su_isub hC dX0_forgetOldest_21 (?_ : SdS X 22 [(0, 10), (1, 0)] [0, 200, 0, 100] _)
      refine su_aaload (e := 100) hC (List.mem_of_getElem? (i := 7) rfl) rfl rfl rfl dX0_forgetOldest_22 (?_ : SdS X 23 [(0, 10), (1, 0)] [100, 0, 100] _)
      refine su_iconst hC dX0_forgetOldest_23 ⟨by decide, by decide⟩ (?_ : SdS X 24 [(0, 10), (1, 0)] [0, 100, 0, 100] _)
      refine su_iconst hC dX0_forgetOldest_24 ⟨by decide, by decide⟩ (?_ : SdS X 25 [(0, 10), (1, 0)] [0, 0, 100, 0, 100] _)
      refine su_acopy hC wl_5_64 wl_4_217 wl_4_216 wl_1_18 (by rw [e3]; decide) (by decide) dX0_forgetOldest_25 (?_ : SdS X 28 [(0, 10), (1, 0)] [] _)
      refine su_iinc (Γ' := [(0, 10), (1, 0)]) hC dX0_forgetOldest_28 (by decide) (by rw [e2]; decide) (by decide) (?_ : SdS X 31 [(0, 10), (1, 0)] [] _)
      refine su_goto (tgt := 2) hC dX0_forgetOldest_31 rfl (?_ : SdS X 2 [(0, 10), (1, 0)] [] _)
      exact SdS.weak (by decide) h2
  refine (?_ : SdS X 0 [(0, 10)] [] (E_X0_forgetOldest Q))
  unfold E_X0_forgetOldest
  refine su_iconst hC dX0_forgetOldest_0 ⟨by decide, by decide⟩ (?_ : SdS X 1 [(0, 10)] [0] _)
  refine su_istore_n (Γ' := [(0, 10), (1, 0)]) hC dX0_forgetOldest_1 rfl (by rw [e2]; decide) (by decide) (?_ : SdS X 2 [(0, 10), (1, 0)] [] _)
  exact SdS.weak (by decide) (S_2)
theorem wl_2_80 : Cond.methodLink RX0 1 Lib.objectInit ∈ WALL := tb2 (List.mem_of_getElem? (i := 80) rfl) rfl
theorem wl_1_29 : Cond.instanceMethod Lib.objectInit ∈ WALL := tb1 (List.mem_of_getElem? (i := 29) rfl) rfl
theorem wl_1_30 : Cond.code Lib.objectInit ⟨#[0xb1]⟩ 1 none ∈ WALL := tb1 (List.mem_of_getElem? (i := 30) rfl) rfl
theorem wl_2_81 : Cond.classLink RX0 9 "[[I" ∈ WALL := tb2 (List.mem_of_getElem? (i := 81) rfl) rfl
theorem wl_1_76 : Cond.arrayClass .int ∈ WALL := tb1 (List.mem_of_getElem? (i := 76) rfl) rfl
theorem hd_X0_init : yX0_init.cls ≠ "java/lang/invoke/MethodHandle" ∧ yX0_init.cls ≠ "java/lang/invoke/VarHandle" ∧ (parseMethodDescriptor yX0_init.desc).map (fun d => d.parameters.length) = some 0 := by decide +kernel
set_option maxRecDepth 100000 in
set_option maxHeartbeats 4000000 in
theorem M_X0_init (l : Launch) : MtS l yX0_init (Cond.code yX0_init cX0_init 1 none :: WALL) { frames := 1, cells := 11, slots := 60, locals := 20 } [10] none T_X0_init := by
  refine MtS.mk (B := E_X0_init) (by decide +kernel) (by decide) (fun _ _ _ hh => hh) ?_
  intro X Q e1 e2 e3 hC hN hT
  subst e1
  have hC : CF X cX0_init RX0 WALL := hC
  refine (?_ : SdS X 0 [(0, 10)] [] (E_X0_init Q))
  unfold E_X0_init
  refine su_aload_n hC 10 dX0_init_0 rfl (by decide) (by decide) (?_ : SdS X 1 [(0, 10)] [10] _)
  refine su_objInit hC (by decide) wl_2_80 wl_1_29 wl_1_30 (by rw [e3]; decide) (by decide) dX0_init_1 (?_ : SdS X 4 [(0, 10)] [] _)
  refine su_aload_n hC 10 dX0_init_4 rfl (by decide) (by decide) (?_ : SdS X 5 [(0, 10)] [10] _)
  refine su_bipush hC dX0_init_5 (by decide) (?_ : SdS X 7 [(0, 10)] [0, 10] _)
  refine su_iconst hC dX0_init_7 ⟨by decide, by decide⟩ (?_ : SdS X 8 [(0, 10)] [0, 0, 10] _)
  refine su_mna hC wl_2_81 wl_1_76 (by rw [e3]) (by rw [e3]) dX0_init_8 (?_ : SdS X 12 [(0, 10)] [200, 10] _)
  refine su_putRF hC (ci := 0) (j := 1) (C := RX0) (T := TX0) (N := 2) tyX0 tyX0_ok nmX0 rfl rfl (by decide) in_X0 rfl rfl rfl hN wl_2_84 rfl dX0_init_12 (?_ : SdS X 15 [(0, 10)] [] _)
  exact su_return hC hT dX0_init_15
theorem wl_1_83 : Cond.fieldLink RX0 21 "NarrowRings$City" "gates" "I" ∈ WALL := tb1 (List.mem_of_getElem? (i := 83) rfl) rfl
theorem wl_1_102 : Cond.fieldLink RX0 26 "NarrowRings$City" "gate" "[[I" ∈ WALL := tb1 (List.mem_of_getElem? (i := 102) rfl) rfl
theorem wl_5_60 : Cond.methodLink RX0 18 yX0_forgetOldest ∈ WALL := tb5 (List.mem_of_getElem? (i := 60) rfl) rfl
theorem wl_5_62 : Cond.instanceMethod yX0_forgetOldest ∈ WALL := tb5 (List.mem_of_getElem? (i := 62) rfl) rfl
theorem wp_61 : Cond.selects RX0 yX0_forgetOldest yX0_forgetOldest ∈ WALL := tbS (List.mem_of_getElem? (i := 61) rfl)
theorem wl_1_8 : Cond.initialized RX0 ∈ WALL := tb1 (List.mem_of_getElem? (i := 8) rfl) rfl
theorem wl_5_63 : Cond.code yX0_forgetOldest cX0_forgetOldest 2 none ∈ WALL := tb5 (List.mem_of_getElem? (i := 63) rfl) rfl
theorem hd_X0_keep : yX0_keep.cls ≠ "java/lang/invoke/MethodHandle" ∧ yX0_keep.cls ≠ "java/lang/invoke/VarHandle" ∧ (parseMethodDescriptor yX0_keep.desc).map (fun d => d.parameters.length) = some 2 := by decide +kernel
set_option maxRecDepth 100000 in
set_option maxHeartbeats 4000000 in
theorem M_X0_keep (l : Launch) : MtS l yX0_keep (Cond.code yX0_keep cX0_keep 3 none :: WALL) { frames := 2, cells := 0, slots := 0, locals := 47 } [10, 11, 0] none T_X0_keep := by
  refine MtS.mk (B := E_X0_keep) (by decide +kernel) (by decide) (fun _ _ _ hh => hh) ?_
  intro X Q e1 e2 e3 hC hN hT
  subst e1
  have hC : CF X cX0_keep RX0 WALL := hC
  have S_13 : SdS X 13 [(0, 10), (1, 11), (2, 0)] [] (B_X0_keep_13 Q) := by
    unfold B_X0_keep_13
    refine su_aload_n hC 10 dX0_keep_13 rfl (by decide) (by decide) (?_ : SdS X 14 [(0, 10), (1, 11), (2, 0)] [10] _)
    refine su_getR hC (ci := 0) (j := 1) (C := RX0) (T := TX0) (N := 2) rfl rfl (by decide) in_X0 wl_2_84 rfl dX0_keep_14 (?_ : SdS X 17 [(0, 10), (1, 11), (2, 0)] [200] _)
    refine su_aload_n hC 10 dX0_keep_17 rfl (by decide) (by decide) (?_ : SdS X 18 [(0, 10), (1, 11), (2, 0)] [10, 200] _)
    refine su_getF hC (ci := 0) (j := 0) (C := RX0) (T := TX0) (N := 2) rfl rfl (by decide) in_X0 wl_2_82 rfl dX0_keep_18 (?_ : SdS X 21 [(0, 10), (1, 11), (2, 0)] [0, 200] _)
    refine su_aaload (e := 100) hC (List.mem_of_getElem? (i := 7) rfl) rfl rfl rfl dX0_keep_21 (?_ : SdS X 22 [(0, 10), (1, 11), (2, 0)] [100] _)
    refine su_iconst hC dX0_keep_22 ⟨by decide, by decide⟩ (?_ : SdS X 23 [(0, 10), (1, 11), (2, 0)] [0, 100] _)
    refine su_iload_n hC dX0_keep_23 rfl (by decide) (?_ : SdS X 24 [(0, 10), (1, 11), (2, 0)] [0, 0, 100] _)
    refine su_iastore hC dX0_keep_24 (?_ : SdS X 25 [(0, 10), (1, 11), (2, 0)] [] _)
    refine su_aload_n hC 10 dX0_keep_25 rfl (by decide) (by decide) (?_ : SdS X 26 [(0, 10), (1, 11), (2, 0)] [10] _)
    refine su_getR hC (ci := 0) (j := 1) (C := RX0) (T := TX0) (N := 2) rfl rfl (by decide) in_X0 wl_2_84 rfl dX0_keep_26 (?_ : SdS X 29 [(0, 10), (1, 11), (2, 0)] [200] _)
    refine su_aload_n hC 10 dX0_keep_29 rfl (by decide) (by decide) (?_ : SdS X 30 [(0, 10), (1, 11), (2, 0)] [10, 200] _)
    refine su_getF hC (ci := 0) (j := 0) (C := RX0) (T := TX0) (N := 2) rfl rfl (by decide) in_X0 wl_2_82 rfl dX0_keep_30 (?_ : SdS X 33 [(0, 10), (1, 11), (2, 0)] [0, 200] _)
    refine su_aaload (e := 100) hC (List.mem_of_getElem? (i := 7) rfl) rfl rfl rfl dX0_keep_33 (?_ : SdS X 34 [(0, 10), (1, 11), (2, 0)] [100] _)
    refine su_iconst hC dX0_keep_34 ⟨by decide, by decide⟩ (?_ : SdS X 35 [(0, 10), (1, 11), (2, 0)] [0, 100] _)
    refine su_aload_n hC 11 dX0_keep_35 rfl (by decide) (by decide) (?_ : SdS X 36 [(0, 10), (1, 11), (2, 0)] [11, 0, 100] _)
    refine su_getF hC (ci := 1) (j := 1) (C := RX1) (T := TX1) (N := 12) rfl rfl (by decide) in_X1 wl_1_83 rfl dX0_keep_36 (?_ : SdS X 39 [(0, 10), (1, 11), (2, 0)] [0, 0, 100] _)
    refine su_iastore hC dX0_keep_39 (?_ : SdS X 40 [(0, 10), (1, 11), (2, 0)] [] _)
    refine su_aload_n hC 10 dX0_keep_40 rfl (by decide) (by decide) (?_ : SdS X 41 [(0, 10), (1, 11), (2, 0)] [10] _)
    refine su_getR hC (ci := 0) (j := 1) (C := RX0) (T := TX0) (N := 2) rfl rfl (by decide) in_X0 wl_2_84 rfl dX0_keep_41 (?_ : SdS X 44 [(0, 10), (1, 11), (2, 0)] [200] _)
    refine su_aload_n hC 10 dX0_keep_44 rfl (by decide) (by decide) (?_ : SdS X 45 [(0, 10), (1, 11), (2, 0)] [10, 200] _)
    refine su_getF hC (ci := 0) (j := 0) (C := RX0) (T := TX0) (N := 2) rfl rfl (by decide) in_X0 wl_2_82 rfl dX0_keep_45 (?_ : SdS X 48 [(0, 10), (1, 11), (2, 0)] [0, 200] _)
    refine su_aaload (e := 100) hC (List.mem_of_getElem? (i := 7) rfl) rfl rfl rfl dX0_keep_48 (?_ : SdS X 49 [(0, 10), (1, 11), (2, 0)] [100] _)
    refine su_iconst hC dX0_keep_49 ⟨by decide, by decide⟩ (?_ : SdS X 50 [(0, 10), (1, 11), (2, 0)] [0, 100] _)
    refine su_aload_n hC 11 dX0_keep_50 rfl (by decide) (by decide) (?_ : SdS X 51 [(0, 10), (1, 11), (2, 0)] [11, 0, 100] _)
    refine su_getR hC (ci := 1) (j := 6) (C := RX1) (T := TX1) (N := 12) rfl rfl (by decide) in_X1 wl_1_102 rfl dX0_keep_51 (?_ : SdS X 54 [(0, 10), (1, 11), (2, 0)] [200, 0, 100] _)
    refine su_iload_n hC dX0_keep_54 rfl (by decide) (?_ : SdS X 55 [(0, 10), (1, 11), (2, 0)] [0, 200, 0, 100] _)
    refine su_aaload (e := 100) hC (List.mem_of_getElem? (i := 7) rfl) rfl rfl rfl dX0_keep_55 (?_ : SdS X 56 [(0, 10), (1, 11), (2, 0)] [100, 0, 100] _)
    refine su_iconst hC dX0_keep_56 ⟨by decide, by decide⟩ (?_ : SdS X 57 [(0, 10), (1, 11), (2, 0)] [0, 100, 0, 100] _)
    refine su_iaload hC dX0_keep_57 (?_ : SdS X 58 [(0, 10), (1, 11), (2, 0)] [0, 0, 100] _)
    refine su_iastore hC dX0_keep_58 (?_ : SdS X 59 [(0, 10), (1, 11), (2, 0)] [] _)
    refine su_aload_n hC 10 dX0_keep_59 rfl (by decide) (by decide) (?_ : SdS X 60 [(0, 10), (1, 11), (2, 0)] [10] _)
    refine su_getR hC (ci := 0) (j := 1) (C := RX0) (T := TX0) (N := 2) rfl rfl (by decide) in_X0 wl_2_84 rfl dX0_keep_60 (?_ : SdS X 63 [(0, 10), (1, 11), (2, 0)] [200] _)
    refine su_aload_n hC 10 dX0_keep_63 rfl (by decide) (by decide) (?_ : SdS X 64 [(0, 10), (1, 11), (2, 0)] [10, 200] _)
    refine su_getF hC (ci := 0) (j := 0) (C := RX0) (T := TX0) (N := 2) rfl rfl (by decide) in_X0 wl_2_82 rfl dX0_keep_64 (?_ : SdS X 67 [(0, 10), (1, 11), (2, 0)] [0, 200] _)
    refine su_aaload (e := 100) hC (List.mem_of_getElem? (i := 7) rfl) rfl rfl rfl dX0_keep_67 (?_ : SdS X 68 [(0, 10), (1, 11), (2, 0)] [100] _)
    refine su_iconst hC dX0_keep_68 ⟨by decide, by decide⟩ (?_ : SdS X 69 [(0, 10), (1, 11), (2, 0)] [0, 100] _)
    refine su_aload_n hC 11 dX0_keep_69 rfl (by decide) (by decide) (?_ : SdS X 70 [(0, 10), (1, 11), (2, 0)] [11, 0, 100] _)
    refine su_getR hC (ci := 1) (j := 6) (C := RX1) (T := TX1) (N := 12) rfl rfl (by decide) in_X1 wl_1_102 rfl dX0_keep_70 (?_ : SdS X 73 [(0, 10), (1, 11), (2, 0)] [200, 0, 100] _)
    refine su_iload_n hC dX0_keep_73 rfl (by decide) (?_ : SdS X 74 [(0, 10), (1, 11), (2, 0)] [0, 200, 0, 100] _)
    refine su_aaload (e := 100) hC (List.mem_of_getElem? (i := 7) rfl) rfl rfl rfl dX0_keep_74 (?_ : SdS X 75 [(0, 10), (1, 11), (2, 0)] [100, 0, 100] _)
    refine su_iconst hC dX0_keep_75 ⟨by decide, by decide⟩ (?_ : SdS X 76 [(0, 10), (1, 11), (2, 0)] [0, 100, 0, 100] _)
    refine su_iaload hC dX0_keep_76 (?_ : SdS X 77 [(0, 10), (1, 11), (2, 0)] [0, 0, 100] _)
    refine su_iastore hC dX0_keep_77 (?_ : SdS X 78 [(0, 10), (1, 11), (2, 0)] [] _)
    refine su_aload_n hC 10 dX0_keep_78 rfl (by decide) (by decide) (?_ : SdS X 79 [(0, 10), (1, 11), (2, 0)] [10] _)
    refine su_getR hC (ci := 0) (j := 1) (C := RX0) (T := TX0) (N := 2) rfl rfl (by decide) in_X0 wl_2_84 rfl dX0_keep_79 (?_ : SdS X 82 [(0, 10), (1, 11), (2, 0)] [200] _)
    refine su_aload_n hC 10 dX0_keep_82 rfl (by decide) (by decide) (?_ : SdS X 83 [(0, 10), (1, 11), (2, 0)] [10, 200] _)
    refine su_getF hC (ci := 0) (j := 0) (C := RX0) (T := TX0) (N := 2) rfl rfl (by decide) in_X0 wl_2_82 rfl dX0_keep_83 (?_ : SdS X 86 [(0, 10), (1, 11), (2, 0)] [0, 200] _)
    refine su_aaload (e := 100) hC (List.mem_of_getElem? (i := 7) rfl) rfl rfl rfl dX0_keep_86 (?_ : SdS X 87 [(0, 10), (1, 11), (2, 0)] [100] _)
    refine su_iconst hC dX0_keep_87 ⟨by decide, by decide⟩ (?_ : SdS X 88 [(0, 10), (1, 11), (2, 0)] [0, 100] _)
    refine su_aload_n hC 11 dX0_keep_88 rfl (by decide) (by decide) (?_ : SdS X 89 [(0, 10), (1, 11), (2, 0)] [11, 0, 100] _)
    refine su_getR hC (ci := 1) (j := 6) (C := RX1) (T := TX1) (N := 12) rfl rfl (by decide) in_X1 wl_1_102 rfl dX0_keep_89 (?_ : SdS X 92 [(0, 10), (1, 11), (2, 0)] [200, 0, 100] _)
    refine su_iload_n hC dX0_keep_92 rfl (by decide) (?_ : SdS X 93 [(0, 10), (1, 11), (2, 0)] [0, 200, 0, 100] _)
    refine su_aaload (e := 100) hC (List.mem_of_getElem? (i := 7) rfl) rfl rfl rfl dX0_keep_93 (?_ : SdS X 94 [(0, 10), (1, 11), (2, 0)] [100, 0, 100] _)
    refine su_bipush hC dX0_keep_94 (by decide) (?_ : SdS X 96 [(0, 10), (1, 11), (2, 0)] [0, 100, 0, 100] _)
    refine su_iaload hC dX0_keep_96 (?_ : SdS X 97 [(0, 10), (1, 11), (2, 0)] [0, 0, 100] _)
    refine su_iastore hC dX0_keep_97 (?_ : SdS X 98 [(0, 10), (1, 11), (2, 0)] [] _)
    refine su_aload_n hC 10 dX0_keep_98 rfl (by decide) (by decide) (?_ : SdS X 99 [(0, 10), (1, 11), (2, 0)] [10] _)
    refine su_dup hC (by decide) dX0_keep_99 (?_ : SdS X 100 [(0, 10), (1, 11), (2, 0)] [10, 10] _)
    refine su_getF hC (ci := 0) (j := 0) (C := RX0) (T := TX0) (N := 2) rfl rfl (by decide) in_X0 wl_2_82 rfl dX0_keep_100 (?_ : SdS X 103 [(0, 10), (1, 11), (2, 0)] [0, 10] _)
    refine su_iconst hC dX0_keep_103 ⟨by decide, by decide⟩ (?_ : SdS X 104 [(0, 10), (1, 11), (2, 0)] [0, 0, 10] _)
    refine su_iadd hC dX0_keep_104 (?_ : SdS X 105 [(0, 10), (1, 11), (2, 0)] [0, 10] _)
    refine su_putF hC (ci := 0) (j := 0) (C := RX0) (T := TX0) (N := 2) tyX0 tyX0_ok nmX0 rfl rfl (by decide) in_X0 rfl rfl wl_2_82 rfl dX0_keep_105 (?_ : SdS X 108 [(0, 10), (1, 11), (2, 0)] [] _)
    exact su_return hC hT dX0_keep_108
  refine (?_ : SdS X 0 [(0, 10), (1, 11), (2, 0)] [] (E_X0_keep Q))
  unfold E_X0_keep
  refine su_aload_n hC 10 dX0_keep_0 rfl (by decide) (by decide) (?_ : SdS X 1 [(0, 10), (1, 11), (2, 0)] [10] _)
  refine su_getF hC (ci := 0) (j := 0) (C := RX0) (T := TX0) (N := 2) rfl rfl (by decide) in_X0 wl_2_82 rfl dX0_keep_1 (?_ : SdS X 4 [(0, 10), (1, 11), (2, 0)] [0] _)
  refine su_bipush hC dX0_keep_4 (by decide) (?_ : SdS X 6 [(0, 10), (1, 11), (2, 0)] [0, 0] _)
  refine su_icmp_lt (tgt := 13) hC dX0_keep_6 rfl (?_ : SdS X 13 [(0, 10), (1, 11), (2, 0)] [] _) (?_ : SdS X 9 [(0, 10), (1, 11), (2, 0)] [] _)
  · exact SdS.weak (by decide) (S_13)
  · refine su_aload_n hC 10 dX0_keep_9 rfl (by decide) (by decide) (?_ : SdS X 10 [(0, 10), (1, 11), (2, 0)] [10] _)
    refine su_inv0v (τ := []) (τr := []) (ci := 0) (q := (RX0, TX0, 2)) hC WG (M_X0_forgetOldest _) rfl rfl rfl rfl  rfl rfl wl_5_60 wl_5_62 wp_61 wl_1_8 wl_5_63 hd_X0_forgetOldest (by rw [e3]; decide) (by decide) dX0_keep_10 (?_ : SdS X 13 [(0, 10), (1, 11), (2, 0)] [] _)
    exact SdS.weak (by decide) (S_13)
theorem hd_X0_takeBack : yX0_takeBack.cls ≠ "java/lang/invoke/MethodHandle" ∧ yX0_takeBack.cls ≠ "java/lang/invoke/VarHandle" ∧ (parseMethodDescriptor yX0_takeBack.desc).map (fun d => d.parameters.length) = some 1 := by decide +kernel
set_option maxRecDepth 100000 in
set_option maxHeartbeats 4000000 in
theorem M_X0_takeBack (l : Launch) : MtS l yX0_takeBack (Cond.code yX0_takeBack cX0_takeBack 3 none :: WALL) { frames := 0, cells := 0, slots := 0, locals := 0 } [10, 11] none T_X0_takeBack := by
  refine MtS.mk (B := E_X0_takeBack) (by decide +kernel) (by decide) (fun _ _ _ hh => hh) ?_
  intro X Q e1 e2 e3 hC hN hT
  subst e1
  have hC : CF X cX0_takeBack RX0 WALL := hC
  refine (?_ : SdS X 0 [(0, 10), (1, 11)] [] (E_X0_takeBack Q))
  unfold E_X0_takeBack
  refine su_aload_n hC 10 dX0_takeBack_0 rfl (by decide) (by decide) (?_ : SdS X 1 [(0, 10), (1, 11)] [10] _)
  refine su_getF hC (ci := 0) (j := 0) (C := RX0) (T := TX0) (N := 2) rfl rfl (by decide) in_X0 wl_2_82 rfl dX0_takeBack_1 (?_ : SdS X 4 [(0, 10), (1, 11)] [0] _)
  refine su_if_ne (tgt := 8) hC dX0_takeBack_4 rfl (?_ : SdS X 8 [(0, 10), (1, 11)] [] _) (?_ : SdS X 7 [(0, 10), (1, 11)] [] _)
  · refine su_aload_n hC 10 dX0_takeBack_8 rfl (by decide) (by decide) (?_ : SdS X 9 [(0, 10), (1, 11)] [10] _)
    refine su_dup hC (by decide) dX0_takeBack_9 (?_ : SdS X 10 [(0, 10), (1, 11)] [10, 10] _)
    refine su_getF hC (ci := 0) (j := 0) (C := RX0) (T := TX0) (N := 2) rfl rfl (by decide) in_X0 wl_2_82 rfl dX0_takeBack_10 (?_ : SdS X 13 [(0, 10), (1, 11)] [0, 10] _)
    refine su_iconst hC dX0_takeBack_13 ⟨by decide, by decide⟩ (?_ : SdS X 14 [(0, 10), (1, 11)] [0, 0, 10] _)
    refine su_isub hC dX0_takeBack_14 (?_ : SdS X 15 [(0, 10), (1, 11)] [0, 10] _)
    refine su_putF hC (ci := 0) (j := 0) (C := RX0) (T := TX0) (N := 2) tyX0 tyX0_ok nmX0 rfl rfl (by decide) in_X0 rfl rfl wl_2_82 rfl dX0_takeBack_15 (?_ : SdS X 18 [(0, 10), (1, 11)] [] _)
    refine su_aload_n hC 11 dX0_takeBack_18 rfl (by decide) (by decide) (?_ : SdS X 19 [(0, 10), (1, 11)] [11] _)
    refine su_getR hC (ci := 1) (j := 6) (C := RX1) (T := TX1) (N := 12) rfl rfl (by decide) in_X1 wl_1_102 rfl dX0_takeBack_19 (?_ : SdS X 22 [(0, 10), (1, 11)] [200] _)
    refine su_aload_n hC 10 dX0_takeBack_22 rfl (by decide) (by decide) (?_ : SdS X 23 [(0, 10), (1, 11)] [10, 200] _)
    refine su_getR hC (ci := 0) (j := 1) (C := RX0) (T := TX0) (N := 2) rfl rfl (by decide) in_X0 wl_2_84 rfl dX0_takeBack_23 (?_ : SdS X 26 [(0, 10), (1, 11)] [200, 200] _)
    refine su_aload_n hC 10 dX0_takeBack_26 rfl (by decide) (by decide) (?_ : SdS X 27 [(0, 10), (1, 11)] [10, 200, 200] _)
    refine su_getF hC (ci := 0) (j := 0) (C := RX0) (T := TX0) (N := 2) rfl rfl (by decide) in_X0 wl_2_82 rfl dX0_takeBack_27 (?_ : SdS X 30 [(0, 10), (1, 11)] [0, 200, 200] _)
    refine su_aaload (e := 100) hC (List.mem_of_getElem? (i := 7) rfl) rfl rfl rfl dX0_takeBack_30 (?_ : SdS X 31 [(0, 10), (1, 11)] [100, 200] _)
    refine su_iconst hC dX0_takeBack_31 ⟨by decide, by decide⟩ (?_ : SdS X 32 [(0, 10), (1, 11)] [0, 100, 200] _)
    refine su_iaload hC dX0_takeBack_32 (?_ : SdS X 33 [(0, 10), (1, 11)] [0, 200] _)
    refine su_aaload (e := 100) hC (List.mem_of_getElem? (i := 7) rfl) rfl rfl rfl dX0_takeBack_33 (?_ : SdS X 34 [(0, 10), (1, 11)] [100] _)
    refine su_astore_n (Γ' := [(0, 10), (1, 11), (2, 100)]) hC dX0_takeBack_34 rfl (by decide) (by rw [e2]; decide) (by decide) (?_ : SdS X 35 [(0, 10), (1, 11), (2, 100)] [] _)
    refine su_aload_n hC 11 dX0_takeBack_35 rfl (by decide) (by decide) (?_ : SdS X 36 [(0, 10), (1, 11), (2, 100)] [11] _)
    refine su_aload_n hC 10 dX0_takeBack_36 rfl (by decide) (by decide) (?_ : SdS X 37 [(0, 10), (1, 11), (2, 100)] [10, 11] _)
    refine su_getR hC (ci := 0) (j := 1) (C := RX0) (T := TX0) (N := 2) rfl rfl (by decide) in_X0 wl_2_84 rfl dX0_takeBack_37 (?_ : SdS X 40 [(0, 10), (1, 11), (2, 100)] [200, 11] _)
    refine su_aload_n hC 10 dX0_takeBack_40 rfl (by decide) (by decide) (?_ : SdS X 41 [(0, 10), (1, 11), (2, 100)] [10, 200, 11] _)
    refine su_getF hC (ci := 0) (j := 0) (C := RX0) (T := TX0) (N := 2) rfl rfl (by decide) in_X0 wl_2_82 rfl dX0_takeBack_41 (?_ : SdS X 44 [(0, 10), (1, 11), (2, 100)] [0, 200, 11] _)
    refine su_aaload (e := 100) hC (List.mem_of_getElem? (i := 7) rfl) rfl rfl rfl dX0_takeBack_44 (?_ : SdS X 45 [(0, 10), (1, 11), (2, 100)] [100, 11] _)
    refine su_iconst hC dX0_takeBack_45 ⟨by decide, by decide⟩ (?_ : SdS X 46 [(0, 10), (1, 11), (2, 100)] [0, 100, 11] _)
    refine su_iaload hC dX0_takeBack_46 (?_ : SdS X 47 [(0, 10), (1, 11), (2, 100)] [0, 11] _)
    refine su_putF hC (ci := 1) (j := 1) (C := RX1) (T := TX1) (N := 12) tyX1 tyX1_ok nmX1 rfl rfl (by decide) in_X1 rfl rfl wl_1_83 rfl dX0_takeBack_47 (?_ : SdS X 50 [(0, 10), (1, 11), (2, 100)] [] _)
    refine su_aload_n hC 100 dX0_takeBack_50 rfl (by decide) (by decide) (?_ : SdS X 51 [(0, 10), (1, 11), (2, 100)] [100] _)
    refine su_iconst hC dX0_takeBack_51 ⟨by decide, by decide⟩ (?_ : SdS X 52 [(0, 10), (1, 11), (2, 100)] [0, 100] _)
    refine su_aload_n hC 10 dX0_takeBack_52 rfl (by decide) (by decide) (?_ : SdS X 53 [(0, 10), (1, 11), (2, 100)] [10, 0, 100] _)
    refine su_getR hC (ci := 0) (j := 1) (C := RX0) (T := TX0) (N := 2) rfl rfl (by decide) in_X0 wl_2_84 rfl dX0_takeBack_53 (?_ : SdS X 56 [(0, 10), (1, 11), (2, 100)] [200, 0, 100] _)
    refine su_aload_n hC 10 dX0_takeBack_56 rfl (by decide) (by decide) (?_ : SdS X 57 [(0, 10), (1, 11), (2, 100)] [10, 200, 0, 100] _)
    refine su_getF hC (ci := 0) (j := 0) (C := RX0) (T := TX0) (N := 2) rfl rfl (by decide) in_X0 wl_2_82 rfl dX0_takeBack_57 (?_ : SdS X 60 [(0, 10), (1, 11), (2, 100)] [0, 200, 0, 100] _)
    refine su_aaload (e := 100) hC (List.mem_of_getElem? (i := 7) rfl) rfl rfl rfl dX0_takeBack_60 (?_ : SdS X 61 [(0, 10), (1, 11), (2, 100)] [100, 0, 100] _)
    refine su_iconst hC dX0_takeBack_61 ⟨by decide, by decide⟩ (?_ : SdS X 62 [(0, 10), (1, 11), (2, 100)] [0, 100, 0, 100] _)
    refine su_iaload hC dX0_takeBack_62 (?_ : SdS X 63 [(0, 10), (1, 11), (2, 100)] [0, 0, 100] _)
    refine su_iastore hC dX0_takeBack_63 (?_ : SdS X 64 [(0, 10), (1, 11), (2, 100)] [] _)
    refine su_aload_n hC 100 dX0_takeBack_64 rfl (by decide) (by decide) (?_ : SdS X 65 [(0, 10), (1, 11), (2, 100)] [100] _)
    refine su_iconst hC dX0_takeBack_65 ⟨by decide, by decide⟩ (?_ : SdS X 66 [(0, 10), (1, 11), (2, 100)] [0, 100] _)
    refine su_aload_n hC 10 dX0_takeBack_66 rfl (by decide) (by decide) (?_ : SdS X 67 [(0, 10), (1, 11), (2, 100)] [10, 0, 100] _)
    refine su_getR hC (ci := 0) (j := 1) (C := RX0) (T := TX0) (N := 2) rfl rfl (by decide) in_X0 wl_2_84 rfl dX0_takeBack_67 (?_ : SdS X 70 [(0, 10), (1, 11), (2, 100)] [200, 0, 100] _)
    refine su_aload_n hC 10 dX0_takeBack_70 rfl (by decide) (by decide) (?_ : SdS X 71 [(0, 10), (1, 11), (2, 100)] [10, 200, 0, 100] _)
    refine su_getF hC (ci := 0) (j := 0) (C := RX0) (T := TX0) (N := 2) rfl rfl (by decide) in_X0 wl_2_82 rfl dX0_takeBack_71 (?_ : SdS X 74 [(0, 10), (1, 11), (2, 100)] [0, 200, 0, 100] _)
    refine su_aaload (e := 100) hC (List.mem_of_getElem? (i := 7) rfl) rfl rfl rfl dX0_takeBack_74 (?_ : SdS X 75 [(0, 10), (1, 11), (2, 100)] [100, 0, 100] _)
    refine su_iconst hC dX0_takeBack_75 ⟨by decide, by decide⟩ (?_ : SdS X 76 [(0, 10), (1, 11), (2, 100)] [0, 100, 0, 100] _)
    refine su_iaload hC dX0_takeBack_76 (?_ : SdS X 77 [(0, 10), (1, 11), (2, 100)] [0, 0, 100] _)
    refine su_iastore hC dX0_takeBack_77 (?_ : SdS X 78 [(0, 10), (1, 11), (2, 100)] [] _)
    refine su_aload_n hC 100 dX0_takeBack_78 rfl (by decide) (by decide) (?_ : SdS X 79 [(0, 10), (1, 11), (2, 100)] [100] _)
    refine su_bipush hC dX0_takeBack_79 (by decide) (?_ : SdS X 81 [(0, 10), (1, 11), (2, 100)] [0, 100] _)
    refine su_aload_n hC 10 dX0_takeBack_81 rfl (by decide) (by decide) (?_ : SdS X 82 [(0, 10), (1, 11), (2, 100)] [10, 0, 100] _)
    refine su_getR hC (ci := 0) (j := 1) (C := RX0) (T := TX0) (N := 2) rfl rfl (by decide) in_X0 wl_2_84 rfl dX0_takeBack_82 (?_ : SdS X 85 [(0, 10), (1, 11), (2, 100)] [200, 0, 100] _)
    refine su_aload_n hC 10 dX0_takeBack_85 rfl (by decide) (by decide) (?_ : SdS X 86 [(0, 10), (1, 11), (2, 100)] [10, 200, 0, 100] _)
    refine su_getF hC (ci := 0) (j := 0) (C := RX0) (T := TX0) (N := 2) rfl rfl (by decide) in_X0 wl_2_82 rfl dX0_takeBack_86 (?_ : SdS X 89 [(0, 10), (1, 11), (2, 100)] [0, 200, 0, 100] _)
    refine su_aaload (e := 100) hC (List.mem_of_getElem? (i := 7) rfl) rfl rfl rfl dX0_takeBack_89 (?_ : SdS X 90 [(0, 10), (1, 11), (2, 100)] [100, 0, 100] _)
    refine su_iconst hC dX0_takeBack_90 ⟨by decide, by decide⟩ (?_ : SdS X 91 [(0, 10), (1, 11), (2, 100)] [0, 100, 0, 100] _)
    refine su_iaload hC dX0_takeBack_91 (?_ : SdS X 92 [(0, 10), (1, 11), (2, 100)] [0, 0, 100] _)
    refine su_iastore hC dX0_takeBack_92 (?_ : SdS X 93 [(0, 10), (1, 11), (2, 100)] [] _)
    exact su_return hC hT dX0_takeBack_93
  · exact su_return hC hT dX0_takeBack_7
theorem wl_5_165 : Cond.fieldLink RX10 64 "NarrowRingsModel" "trouble" "I" ∈ WALL := tb5 (List.mem_of_getElem? (i := 165) rfl) rfl
theorem wl_5_166 : Cond.fieldLink RX10 9 "NarrowRingsModel" "where" "I" ∈ WALL := tb5 (List.mem_of_getElem? (i := 166) rfl) rfl
theorem hd_X10_refused : yX10_refused.cls ≠ "java/lang/invoke/MethodHandle" ∧ yX10_refused.cls ≠ "java/lang/invoke/VarHandle" ∧ (parseMethodDescriptor yX10_refused.desc).map (fun d => d.parameters.length) = some 1 := by decide +kernel
set_option maxRecDepth 100000 in
set_option maxHeartbeats 4000000 in
theorem M_X10_refused (l : Launch) : MtS l yX10_refused (Cond.code yX10_refused cX10_refused 2 (some .int) :: WALL) { frames := 0, cells := 0, slots := 0, locals := 0 } [20, 0] (some 0) T_X10_refused := by
  refine MtS.mk (B := E_X10_refused) (by decide +kernel) (by decide) (fun _ _ _ hh => hh) ?_
  intro X Q e1 e2 e3 hC hN hT
  subst e1
  have hC : CF X cX10_refused RX10 WALL := hC
  refine (?_ : SdS X 0 [(0, 20), (1, 0)] [] (E_X10_refused Q))
  unfold E_X10_refused
  refine su_aload_n hC 20 dX10_refused_0 rfl (by decide) (by decide) (?_ : SdS X 1 [(0, 20), (1, 0)] [20] _)
  refine su_iload_n hC dX10_refused_1 rfl (by decide) (?_ : SdS X 2 [(0, 20), (1, 0)] [0, 20] _)
  refine su_putF hC (ci := 10) (j := 1) (C := RX10) (T := TX10) (N := 45) tyX10 tyX10_ok nmX10 rfl rfl (by decide) in_X10 rfl rfl wl_5_165 rfl dX10_refused_2 (?_ : SdS X 5 [(0, 20), (1, 0)] [] _)
  refine su_aload_n hC 20 dX10_refused_5 rfl (by decide) (by decide) (?_ : SdS X 6 [(0, 20), (1, 0)] [20] _)
  refine su_iconst hC dX10_refused_6 ⟨by decide, by decide⟩ (?_ : SdS X 7 [(0, 20), (1, 0)] [0, 20] _)
  refine su_putF hC (ci := 10) (j := 2) (C := RX10) (T := TX10) (N := 45) tyX10 tyX10_ok nmX10 rfl rfl (by decide) in_X10 rfl rfl wl_5_166 rfl dX10_refused_7 (?_ : SdS X 10 [(0, 20), (1, 0)] [] _)
  refine su_iconst hC dX10_refused_10 ⟨by decide, by decide⟩ (?_ : SdS X 11 [(0, 20), (1, 0)] [0] _)
  exact su_ireturn hC hT dX10_refused_11
theorem wl_5_167 : Cond.fieldLink RX10 336 "NarrowRingsModel" "city" "LNarrowRingsModel$City;" ∈ WALL := tb5 (List.mem_of_getElem? (i := 167) rfl) rfl
theorem hd_X10_canCut : yX10_canCut.cls ≠ "java/lang/invoke/MethodHandle" ∧ yX10_canCut.cls ≠ "java/lang/invoke/VarHandle" ∧ (parseMethodDescriptor yX10_canCut.desc).map (fun d => d.parameters.length) = some 1 := by decide +kernel
set_option maxRecDepth 100000 in
set_option maxHeartbeats 4000000 in
theorem M_X10_canCut (l : Launch) : MtS l yX10_canCut (Cond.code yX10_canCut cX10_canCut 2 (some .boolean) :: WALL) { frames := 0, cells := 0, slots := 0, locals := 0 } [20, 0] (some 0) T_X10_canCut := by
  refine MtS.mk (B := E_X10_canCut) (by decide +kernel) (by decide) (fun _ _ _ hh => hh) ?_
  intro X Q e1 e2 e3 hC hN hT
  subst e1
  have hC : CF X cX10_canCut RX10 WALL := hC
  have S_29 : SdS X 29 [(0, 20), (1, 0)] [0] (B_X10_canCut_29 Q) := by
    unfold B_X10_canCut_29
    exact su_zreturn hC hT dX10_canCut_29
  have S_28 : SdS X 28 [(0, 20), (1, 0)] [] (B_X10_canCut_28 Q) := by
    unfold B_X10_canCut_28
    refine su_iconst hC dX10_canCut_28 ⟨by decide, by decide⟩ (?_ : SdS X 29 [(0, 20), (1, 0)] [0] _)
    exact SdS.weak (by decide) (S_29)
  refine (?_ : SdS X 0 [(0, 20), (1, 0)] [] (E_X10_canCut Q))
  unfold E_X10_canCut
  refine su_aload_n hC 20 dX10_canCut_0 rfl (by decide) (by decide) (?_ : SdS X 1 [(0, 20), (1, 0)] [20] _)
  refine su_getR hC (ci := 10) (j := 3) (C := RX10) (T := TX10) (N := 45) rfl rfl (by decide) in_X10 wl_5_167 rfl dX10_canCut_1 (?_ : SdS X 4 [(0, 20), (1, 0)] [19] _)
  refine su_getRN hC (ci := 9) (j := 19) (C := RX9) (T := TX9) (N := 28) (host := "NarrowRingsModel") rfl rfl (by decide) in_X9 (by decide) rfl dX10_canCut_4 (?_ : SdS X 7 [(0, 20), (1, 0)] [100] _)
  refine su_iload_n hC dX10_canCut_7 rfl (by decide) (?_ : SdS X 8 [(0, 20), (1, 0)] [0, 100] _)
  refine su_iaload hC dX10_canCut_8 (?_ : SdS X 9 [(0, 20), (1, 0)] [0] _)
  refine su_if_le (tgt := 28) hC dX10_canCut_9 rfl (?_ : SdS X 28 [(0, 20), (1, 0)] [] _) (?_ : SdS X 12 [(0, 20), (1, 0)] [] _)
  · exact SdS.weak (by decide) (S_28)
  · refine su_aload_n hC 20 dX10_canCut_12 rfl (by decide) (by decide) (?_ : SdS X 13 [(0, 20), (1, 0)] [20] _)
    refine su_getR hC (ci := 10) (j := 3) (C := RX10) (T := TX10) (N := 45) rfl rfl (by decide) in_X10 wl_5_167 rfl dX10_canCut_13 (?_ : SdS X 16 [(0, 20), (1, 0)] [19] _)
    refine su_getRN hC (ci := 9) (j := 11) (C := RX9) (T := TX9) (N := 28) (host := "NarrowRingsModel") rfl rfl (by decide) in_X9 (by decide) rfl dX10_canCut_16 (?_ : SdS X 19 [(0, 20), (1, 0)] [103] _)
    refine su_iload_n hC dX10_canCut_19 rfl (by decide) (?_ : SdS X 20 [(0, 20), (1, 0)] [0, 103] _)
    refine su_zaload hC dX10_canCut_20 (?_ : SdS X 21 [(0, 20), (1, 0)] [0] _)
    refine su_if_ne (tgt := 28) hC dX10_canCut_21 rfl (?_ : SdS X 28 [(0, 20), (1, 0)] [] _) (?_ : SdS X 24 [(0, 20), (1, 0)] [] _)
    · exact SdS.weak (by decide) (S_28)
    · refine su_iconst hC dX10_canCut_24 ⟨by decide, by decide⟩ (?_ : SdS X 25 [(0, 20), (1, 0)] [0] _)
      refine su_goto (tgt := 29) hC dX10_canCut_25 rfl (?_ : SdS X 29 [(0, 20), (1, 0)] [0] _)
      exact SdS.weak (by decide) (S_29)
theorem hd_X10_upwards : yX10_upwards.cls ≠ "java/lang/invoke/MethodHandle" ∧ yX10_upwards.cls ≠ "java/lang/invoke/VarHandle" ∧ (parseMethodDescriptor yX10_upwards.desc).map (fun d => d.parameters.length) = some 2 := by decide +kernel
set_option maxRecDepth 100000 in
set_option maxHeartbeats 4000000 in
theorem M_X10_upwards (l : Launch) : MtS l yX10_upwards (Cond.code yX10_upwards cX10_upwards 2 (some .int) :: WALL) { frames := 0, cells := 0, slots := 0, locals := 0 } [0, 0] (some 0) T_X10_upwards := by
  refine MtS.mk (B := E_X10_upwards) (by decide +kernel) (by decide) (fun _ _ _ hh => hh) ?_
  intro X Q e1 e2 e3 hC hN hT
  subst e1
  have hC : CF X cX10_upwards RX10 WALL := hC
  refine (?_ : SdS X 0 [(0, 0), (1, 0)] [] (E_X10_upwards Q))
  unfold E_X10_upwards
  refine su_iload_n hC dX10_upwards_0 rfl (by decide) (?_ : SdS X 1 [(0, 0), (1, 0)] [0] _)
  refine su_iload_n hC dX10_upwards_1 rfl (by decide) (?_ : SdS X 2 [(0, 0), (1, 0)] [0, 0] _)
  refine su_iadd hC dX10_upwards_2 (?_ : SdS X 3 [(0, 0), (1, 0)] [0] _)
  refine su_iconst hC dX10_upwards_3 ⟨by decide, by decide⟩ (?_ : SdS X 4 [(0, 0), (1, 0)] [0, 0] _)
  refine su_isub hC dX10_upwards_4 (?_ : SdS X 5 [(0, 0), (1, 0)] [0] _)
  refine su_iload_n hC dX10_upwards_5 rfl (by decide) (?_ : SdS X 6 [(0, 0), (1, 0)] [0, 0] _)
  refine su_idiv hC dX10_upwards_6 (?_ : SdS X 7 [(0, 0), (1, 0)] [0] _)
  exact su_ireturn hC hT dX10_upwards_7
theorem wl_5_187 : Cond.fieldLink RX10 351 "NarrowRingsModel" "many" "I" ∈ WALL := tb5 (List.mem_of_getElem? (i := 187) rfl) rfl
theorem wl_7_107 : Cond.methodLink RX10 354 yX10_upwards ∈ WALL := tb7 (List.mem_of_getElem? (i := 107) rfl) rfl
theorem wl_7_108 : Cond.static yX10_upwards ∈ WALL := tb7 (List.mem_of_getElem? (i := 108) rfl) rfl
theorem wl_1_10 : Cond.initialized RX10 ∈ WALL := tb1 (List.mem_of_getElem? (i := 10) rfl) rfl
theorem wl_7_109 : Cond.code yX10_upwards cX10_upwards 2 (some .int) ∈ WALL := tb7 (List.mem_of_getElem? (i := 109) rfl) rfl
theorem wl_5_182 : Cond.fieldLink RX10 357 "NarrowRingsModel" "length" "I" ∈ WALL := tb5 (List.mem_of_getElem? (i := 182) rfl) rfl
theorem wl_5_185 : Cond.fieldLink RX10 359 "NarrowRingsModel" "weight" "I" ∈ WALL := tb5 (List.mem_of_getElem? (i := 185) rfl) rfl
theorem wl_5_183 : Cond.fieldLink RX10 362 "NarrowRingsModel" "wide" "I" ∈ WALL := tb5 (List.mem_of_getElem? (i := 183) rfl) rfl
theorem wl_5_184 : Cond.fieldLink RX10 364 "NarrowRingsModel" "high" "I" ∈ WALL := tb5 (List.mem_of_getElem? (i := 184) rfl) rfl
theorem wl_5_186 : Cond.fieldLink RX10 366 "NarrowRingsModel" "poses" "I" ∈ WALL := tb5 (List.mem_of_getElem? (i := 186) rfl) rfl
theorem hd_X10_takes : yX10_takes.cls ≠ "java/lang/invoke/MethodHandle" ∧ yX10_takes.cls ≠ "java/lang/invoke/VarHandle" ∧ (parseMethodDescriptor yX10_takes.desc).map (fun d => d.parameters.length) = some 2 := by decide +kernel
set_option maxRecDepth 100000 in
set_option maxHeartbeats 4000000 in
theorem M_X10_takes (l : Launch) : MtS l yX10_takes (Cond.code yX10_takes cX10_takes 3 none :: WALL) { frames := 1, cells := 0, slots := 0, locals := 21 } [20, 0, 0] none T_X10_takes := by
  refine MtS.mk (B := E_X10_takes) (by decide +kernel) (by decide) (fun _ _ _ hh => hh) ?_
  intro X Q e1 e2 e3 hC hN hT
  subst e1
  have hC : CF X cX10_takes RX10 WALL := hC
  have S_124 : SdS X 124 [(0, 20), (1, 0), (2, 0)] [0, 0, 20] (B_X10_takes_124 Q) := by
    unfold B_X10_takes_124
    refine su_ior hC dX10_takes_124 (?_ : SdS X 125 [(0, 20), (1, 0), (2, 0)] [0, 20] _)
    refine su_putF hC (ci := 10) (j := 22) (C := RX10) (T := TX10) (N := 45) tyX10 tyX10_ok nmX10 rfl rfl (by decide) in_X10 rfl rfl wl_5_186 rfl dX10_takes_125 (?_ : SdS X 128 [(0, 20), (1, 0), (2, 0)] [] _)
    exact su_return hC hT dX10_takes_128
  have S_106 : SdS X 106 [(0, 20), (1, 0), (2, 0)] [0, 0, 20] (B_X10_takes_106 Q) := by
    unfold B_X10_takes_106
    refine su_ior hC dX10_takes_106 (?_ : SdS X 107 [(0, 20), (1, 0), (2, 0)] [0, 20] _)
    refine su_aload_n hC 20 dX10_takes_107 rfl (by decide) (by decide) (?_ : SdS X 108 [(0, 20), (1, 0), (2, 0)] [20, 0, 20] _)
    refine su_getR hC (ci := 10) (j := 3) (C := RX10) (T := TX10) (N := 45) rfl rfl (by decide) in_X10 wl_5_167 rfl dX10_takes_108 (?_ : SdS X 111 [(0, 20), (1, 0), (2, 0)] [19, 0, 20] _)
    refine su_getRN hC (ci := 9) (j := 10) (C := RX9) (T := TX9) (N := 28) (host := "NarrowRingsModel") rfl rfl (by decide) in_X9 (by decide) rfl dX10_takes_111 (?_ : SdS X 114 [(0, 20), (1, 0), (2, 0)] [103, 0, 20] _)
    refine su_iload_n hC dX10_takes_114 rfl (by decide) (?_ : SdS X 115 [(0, 20), (1, 0), (2, 0)] [0, 103, 0, 20] _)
    refine su_zaload hC dX10_takes_115 (?_ : SdS X 116 [(0, 20), (1, 0), (2, 0)] [0, 0, 20] _)
    refine su_if_eq (tgt := 123) hC dX10_takes_116 rfl (?_ : SdS X 123 [(0, 20), (1, 0), (2, 0)] [0, 20] _) (?_ : SdS X 119 [(0, 20), (1, 0), (2, 0)] [0, 20] _)
    · refine su_iconst hC dX10_takes_123 ⟨by decide, by decide⟩ (?_ : SdS X 124 [(0, 20), (1, 0), (2, 0)] [0, 0, 20] _)
      exact SdS.weak (by decide) (S_124)
    · refine su_iconst hC dX10_takes_119 ⟨by decide, by decide⟩ (?_ : SdS X 120 [(0, 20), (1, 0), (2, 0)] [0, 0, 20] _)
      refine su_goto (tgt := 124) hC dX10_takes_120 rfl (?_ : SdS X 124 [(0, 20), (1, 0), (2, 0)] [0, 0, 20] _)
      exact SdS.weak (by decide) (S_124)
  have S_18 : SdS X 18 [(0, 20), (1, 0), (2, 0)] [0, 20] (B_X10_takes_18 Q) := by
    unfold B_X10_takes_18
    refine su_putF hC (ci := 10) (j := 23) (C := RX10) (T := TX10) (N := 45) tyX10 tyX10_ok nmX10 rfl rfl (by decide) in_X10 rfl rfl wl_5_187 rfl dX10_takes_18 (?_ : SdS X 21 [(0, 20), (1, 0), (2, 0)] [] _)
    refine su_aload_n hC 20 dX10_takes_21 rfl (by decide) (by decide) (?_ : SdS X 22 [(0, 20), (1, 0), (2, 0)] [20] _)
    refine su_aload_n hC 20 dX10_takes_22 rfl (by decide) (by decide) (?_ : SdS X 23 [(0, 20), (1, 0), (2, 0)] [20, 20] _)
    refine su_getR hC (ci := 10) (j := 3) (C := RX10) (T := TX10) (N := 45) rfl rfl (by decide) in_X10 wl_5_167 rfl dX10_takes_23 (?_ : SdS X 26 [(0, 20), (1, 0), (2, 0)] [19, 20] _)
    refine su_getRN hC (ci := 9) (j := 15) (C := RX9) (T := TX9) (N := 28) (host := "NarrowRingsModel") rfl rfl (by decide) in_X9 (by decide) rfl dX10_takes_26 (?_ : SdS X 29 [(0, 20), (1, 0), (2, 0)] [100, 20] _)
    refine su_iload_n hC dX10_takes_29 rfl (by decide) (?_ : SdS X 30 [(0, 20), (1, 0), (2, 0)] [0, 100, 20] _)
    refine su_iaload hC dX10_takes_30 (?_ : SdS X 31 [(0, 20), (1, 0), (2, 0)] [0, 20] _)
    refine su_aload_n hC 20 dX10_takes_31 rfl (by decide) (by decide) (?_ : SdS X 32 [(0, 20), (1, 0), (2, 0)] [20, 0, 20] _)
    refine su_getF hC (ci := 10) (j := 23) (C := RX10) (T := TX10) (N := 45) rfl rfl (by decide) in_X10 wl_5_187 rfl dX10_takes_32 (?_ : SdS X 35 [(0, 20), (1, 0), (2, 0)] [0, 0, 20] _)
    refine su_invs (τ := [20]) (τs := [0, 0]) hC false "" WG (M_X10_upwards _) rfl rfl rfl rfl wl_7_107 wl_7_108 wl_1_10 wl_7_109 hd_X10_upwards (by rw [e3]; decide) (by decide) dX10_takes_35 (?_ : SdS X 38 [(0, 20), (1, 0), (2, 0)] [0, 20] _)
    refine su_putF hC (ci := 10) (j := 18) (C := RX10) (T := TX10) (N := 45) tyX10 tyX10_ok nmX10 rfl rfl (by decide) in_X10 rfl rfl wl_5_182 rfl dX10_takes_38 (?_ : SdS X 41 [(0, 20), (1, 0), (2, 0)] [] _)
    refine su_aload_n hC 20 dX10_takes_41 rfl (by decide) (by decide) (?_ : SdS X 42 [(0, 20), (1, 0), (2, 0)] [20] _)
    refine su_aload_n hC 20 dX10_takes_42 rfl (by decide) (by decide) (?_ : SdS X 43 [(0, 20), (1, 0), (2, 0)] [20, 20] _)
    refine su_getR hC (ci := 10) (j := 3) (C := RX10) (T := TX10) (N := 45) rfl rfl (by decide) in_X10 wl_5_167 rfl dX10_takes_43 (?_ : SdS X 46 [(0, 20), (1, 0), (2, 0)] [19, 20] _)
    refine su_getRN hC (ci := 9) (j := 18) (C := RX9) (T := TX9) (N := 28) (host := "NarrowRingsModel") rfl rfl (by decide) in_X9 (by decide) rfl dX10_takes_46 (?_ : SdS X 49 [(0, 20), (1, 0), (2, 0)] [100, 20] _)
    refine su_iload_n hC dX10_takes_49 rfl (by decide) (?_ : SdS X 50 [(0, 20), (1, 0), (2, 0)] [0, 100, 20] _)
    refine su_iaload hC dX10_takes_50 (?_ : SdS X 51 [(0, 20), (1, 0), (2, 0)] [0, 20] _)
    refine su_aload_n hC 20 dX10_takes_51 rfl (by decide) (by decide) (?_ : SdS X 52 [(0, 20), (1, 0), (2, 0)] [20, 0, 20] _)
    refine su_getF hC (ci := 10) (j := 23) (C := RX10) (T := TX10) (N := 45) rfl rfl (by decide) in_X10 wl_5_187 rfl dX10_takes_52 (?_ : SdS X 55 [(0, 20), (1, 0), (2, 0)] [0, 0, 20] _)
    refine su_invs (τ := [20]) (τs := [0, 0]) hC false "" WG (M_X10_upwards _) rfl rfl rfl rfl wl_7_107 wl_7_108 wl_1_10 wl_7_109 hd_X10_upwards (by rw [e3]; decide) (by decide) dX10_takes_55 (?_ : SdS X 58 [(0, 20), (1, 0), (2, 0)] [0, 20] _)
    refine su_putF hC (ci := 10) (j := 21) (C := RX10) (T := TX10) (N := 45) tyX10 tyX10_ok nmX10 rfl rfl (by decide) in_X10 rfl rfl wl_5_185 rfl dX10_takes_58 (?_ : SdS X 61 [(0, 20), (1, 0), (2, 0)] [] _)
    refine su_aload_n hC 20 dX10_takes_61 rfl (by decide) (by decide) (?_ : SdS X 62 [(0, 20), (1, 0), (2, 0)] [20] _)
    refine su_aload_n hC 20 dX10_takes_62 rfl (by decide) (by decide) (?_ : SdS X 63 [(0, 20), (1, 0), (2, 0)] [20, 20] _)
    refine su_getR hC (ci := 10) (j := 3) (C := RX10) (T := TX10) (N := 45) rfl rfl (by decide) in_X10 wl_5_167 rfl dX10_takes_63 (?_ : SdS X 66 [(0, 20), (1, 0), (2, 0)] [19, 20] _)
    refine su_getRN hC (ci := 9) (j := 16) (C := RX9) (T := TX9) (N := 28) (host := "NarrowRingsModel") rfl rfl (by decide) in_X9 (by decide) rfl dX10_takes_66 (?_ : SdS X 69 [(0, 20), (1, 0), (2, 0)] [100, 20] _)
    refine su_iload_n hC dX10_takes_69 rfl (by decide) (?_ : SdS X 70 [(0, 20), (1, 0), (2, 0)] [0, 100, 20] _)
    refine su_iaload hC dX10_takes_70 (?_ : SdS X 71 [(0, 20), (1, 0), (2, 0)] [0, 20] _)
    refine su_putF hC (ci := 10) (j := 19) (C := RX10) (T := TX10) (N := 45) tyX10 tyX10_ok nmX10 rfl rfl (by decide) in_X10 rfl rfl wl_5_183 rfl dX10_takes_71 (?_ : SdS X 74 [(0, 20), (1, 0), (2, 0)] [] _)
    refine su_aload_n hC 20 dX10_takes_74 rfl (by decide) (by decide) (?_ : SdS X 75 [(0, 20), (1, 0), (2, 0)] [20] _)
    refine su_aload_n hC 20 dX10_takes_75 rfl (by decide) (by decide) (?_ : SdS X 76 [(0, 20), (1, 0), (2, 0)] [20, 20] _)
    refine su_getR hC (ci := 10) (j := 3) (C := RX10) (T := TX10) (N := 45) rfl rfl (by decide) in_X10 wl_5_167 rfl dX10_takes_76 (?_ : SdS X 79 [(0, 20), (1, 0), (2, 0)] [19, 20] _)
    refine su_getRN hC (ci := 9) (j := 17) (C := RX9) (T := TX9) (N := 28) (host := "NarrowRingsModel") rfl rfl (by decide) in_X9 (by decide) rfl dX10_takes_79 (?_ : SdS X 82 [(0, 20), (1, 0), (2, 0)] [100, 20] _)
    refine su_iload_n hC dX10_takes_82 rfl (by decide) (?_ : SdS X 83 [(0, 20), (1, 0), (2, 0)] [0, 100, 20] _)
    refine su_iaload hC dX10_takes_83 (?_ : SdS X 84 [(0, 20), (1, 0), (2, 0)] [0, 20] _)
    refine su_putF hC (ci := 10) (j := 20) (C := RX10) (T := TX10) (N := 45) tyX10 tyX10_ok nmX10 rfl rfl (by decide) in_X10 rfl rfl wl_5_184 rfl dX10_takes_84 (?_ : SdS X 87 [(0, 20), (1, 0), (2, 0)] [] _)
    refine su_aload_n hC 20 dX10_takes_87 rfl (by decide) (by decide) (?_ : SdS X 88 [(0, 20), (1, 0), (2, 0)] [20] _)
    refine su_iconst hC dX10_takes_88 ⟨by decide, by decide⟩ (?_ : SdS X 89 [(0, 20), (1, 0), (2, 0)] [0, 20] _)
    refine su_aload_n hC 20 dX10_takes_89 rfl (by decide) (by decide) (?_ : SdS X 90 [(0, 20), (1, 0), (2, 0)] [20, 0, 20] _)
    refine su_getR hC (ci := 10) (j := 3) (C := RX10) (T := TX10) (N := 45) rfl rfl (by decide) in_X10 wl_5_167 rfl dX10_takes_90 (?_ : SdS X 93 [(0, 20), (1, 0), (2, 0)] [19, 0, 20] _)
    refine su_getRN hC (ci := 9) (j := 11) (C := RX9) (T := TX9) (N := 28) (host := "NarrowRingsModel") rfl rfl (by decide) in_X9 (by decide) rfl dX10_takes_93 (?_ : SdS X 96 [(0, 20), (1, 0), (2, 0)] [103, 0, 20] _)
    refine su_iload_n hC dX10_takes_96 rfl (by decide) (?_ : SdS X 97 [(0, 20), (1, 0), (2, 0)] [0, 103, 0, 20] _)
    refine su_zaload hC dX10_takes_97 (?_ : SdS X 98 [(0, 20), (1, 0), (2, 0)] [0, 0, 20] _)
    refine su_if_eq (tgt := 105) hC dX10_takes_98 rfl (?_ : SdS X 105 [(0, 20), (1, 0), (2, 0)] [0, 20] _) (?_ : SdS X 101 [(0, 20), (1, 0), (2, 0)] [0, 20] _)
    · refine su_iconst hC dX10_takes_105 ⟨by decide, by decide⟩ (?_ : SdS X 106 [(0, 20), (1, 0), (2, 0)] [0, 0, 20] _)
      exact SdS.weak (by decide) (S_106)
    · refine su_iconst hC dX10_takes_101 ⟨by decide, by decide⟩ (?_ : SdS X 102 [(0, 20), (1, 0), (2, 0)] [0, 0, 20] _)
      refine su_goto (tgt := 106) hC dX10_takes_102 rfl (?_ : SdS X 106 [(0, 20), (1, 0), (2, 0)] [0, 0, 20] _)
      exact SdS.weak (by decide) (S_106)
  refine (?_ : SdS X 0 [(0, 20), (1, 0), (2, 0)] [] (E_X10_takes Q))
  unfold E_X10_takes
  refine su_aload_n hC 20 dX10_takes_0 rfl (by decide) (by decide) (?_ : SdS X 1 [(0, 20), (1, 0), (2, 0)] [20] _)
  refine su_iload_n hC dX10_takes_1 rfl (by decide) (?_ : SdS X 2 [(0, 20), (1, 0), (2, 0)] [0, 20] _)
  refine su_if_eq (tgt := 17) hC dX10_takes_2 rfl (?_ : SdS X 17 [(0, 20), (1, 0), (2, 0)] [20] _) (?_ : SdS X 5 [(0, 20), (1, 0), (2, 0)] [20] _)
  · refine su_iconst hC dX10_takes_17 ⟨by decide, by decide⟩ (?_ : SdS X 18 [(0, 20), (1, 0), (2, 0)] [0, 20] _)
    exact SdS.weak (by decide) (S_18)
  · refine su_aload_n hC 20 dX10_takes_5 rfl (by decide) (by decide) (?_ : SdS X 6 [(0, 20), (1, 0), (2, 0)] [20, 20] _)
    refine su_getR hC (ci := 10) (j := 3) (C := RX10) (T := TX10) (N := 45) rfl rfl (by decide) in_X10 wl_5_167 rfl dX10_takes_6 (?_ : SdS X 9 [(0, 20), (1, 0), (2, 0)] [19, 20] _)
    refine su_getRN hC (ci := 9) (j := 19) (C := RX9) (T := TX9) (N := 28) (host := "NarrowRingsModel") rfl rfl (by decide) in_X9 (by decide) rfl dX10_takes_9 (?_ : SdS X 12 [(0, 20), (1, 0), (2, 0)] [100, 20] _)
    refine su_iload_n hC dX10_takes_12 rfl (by decide) (?_ : SdS X 13 [(0, 20), (1, 0), (2, 0)] [0, 100, 20] _)
    refine su_iaload hC dX10_takes_13 (?_ : SdS X 14 [(0, 20), (1, 0), (2, 0)] [0, 20] _)
    refine su_goto (tgt := 18) hC dX10_takes_14 rfl (?_ : SdS X 18 [(0, 20), (1, 0), (2, 0)] [0, 20] _)
    exact SdS.weak (by decide) (S_18)
theorem hd_X10_hasPose : yX10_hasPose.cls ≠ "java/lang/invoke/MethodHandle" ∧ yX10_hasPose.cls ≠ "java/lang/invoke/VarHandle" ∧ (parseMethodDescriptor yX10_hasPose.desc).map (fun d => d.parameters.length) = some 1 := by decide +kernel
set_option maxRecDepth 100000 in
set_option maxHeartbeats 4000000 in
theorem M_X10_hasPose (l : Launch) : MtS l yX10_hasPose (Cond.code yX10_hasPose cX10_hasPose 2 (some .boolean) :: WALL) { frames := 0, cells := 0, slots := 0, locals := 0 } [20, 0] (some 0) T_X10_hasPose := by
  refine MtS.mk (B := E_X10_hasPose) (by decide +kernel) (by decide) (fun _ _ _ hh => hh) ?_
  intro X Q e1 e2 e3 hC hN hT
  subst e1
  have hC : CF X cX10_hasPose RX10 WALL := hC
  have S_17 : SdS X 17 [(0, 20), (1, 0)] [0] (B_X10_hasPose_17 Q) := by
    unfold B_X10_hasPose_17
    exact su_zreturn hC hT dX10_hasPose_17
  refine (?_ : SdS X 0 [(0, 20), (1, 0)] [] (E_X10_hasPose Q))
  unfold E_X10_hasPose
  refine su_aload_n hC 20 dX10_hasPose_0 rfl (by decide) (by decide) (?_ : SdS X 1 [(0, 20), (1, 0)] [20] _)
  refine su_getF hC (ci := 10) (j := 22) (C := RX10) (T := TX10) (N := 45) rfl rfl (by decide) in_X10 wl_5_186 rfl dX10_hasPose_1 (?_ : SdS X 4 [(0, 20), (1, 0)] [0] _)
  refine su_iload_n hC dX10_hasPose_4 rfl (by decide) (?_ : SdS X 5 [(0, 20), (1, 0)] [0, 0] _)
  refine su_ishr hC dX10_hasPose_5 (?_ : SdS X 6 [(0, 20), (1, 0)] [0] _)
  refine su_iconst hC dX10_hasPose_6 ⟨by decide, by decide⟩ (?_ : SdS X 7 [(0, 20), (1, 0)] [0, 0] _)
  refine su_iand hC dX10_hasPose_7 (?_ : SdS X 8 [(0, 20), (1, 0)] [0] _)
  refine su_iconst hC dX10_hasPose_8 ⟨by decide, by decide⟩ (?_ : SdS X 9 [(0, 20), (1, 0)] [0, 0] _)
  refine su_icmp_ne (tgt := 16) hC dX10_hasPose_9 rfl (?_ : SdS X 16 [(0, 20), (1, 0)] [] _) (?_ : SdS X 12 [(0, 20), (1, 0)] [] _)
  · refine su_iconst hC dX10_hasPose_16 ⟨by decide, by decide⟩ (?_ : SdS X 17 [(0, 20), (1, 0)] [0] _)
    exact SdS.weak (by decide) (S_17)
  · refine su_iconst hC dX10_hasPose_12 ⟨by decide, by decide⟩ (?_ : SdS X 13 [(0, 20), (1, 0)] [0] _)
    refine su_goto (tgt := 17) hC dX10_hasPose_13 rfl (?_ : SdS X 17 [(0, 20), (1, 0)] [0] _)
    exact SdS.weak (by decide) (S_17)
theorem hd_X10_wideIn : yX10_wideIn.cls ≠ "java/lang/invoke/MethodHandle" ∧ yX10_wideIn.cls ≠ "java/lang/invoke/VarHandle" ∧ (parseMethodDescriptor yX10_wideIn.desc).map (fun d => d.parameters.length) = some 1 := by decide +kernel
set_option maxRecDepth 100000 in
set_option maxHeartbeats 4000000 in
theorem M_X10_wideIn (l : Launch) : MtS l yX10_wideIn (Cond.code yX10_wideIn cX10_wideIn 2 (some .int) :: WALL) { frames := 0, cells := 0, slots := 0, locals := 0 } [20, 0] (some 0) T_X10_wideIn := by
  refine MtS.mk (B := E_X10_wideIn) (by decide +kernel) (by decide) (fun _ _ _ hh => hh) ?_
  intro X Q e1 e2 e3 hC hN hT
  subst e1
  have hC : CF X cX10_wideIn RX10 WALL := hC
  have S_16 : SdS X 16 [(0, 20), (1, 0)] [0] (B_X10_wideIn_16 Q) := by
    unfold B_X10_wideIn_16
    exact su_ireturn hC hT dX10_wideIn_16
  refine (?_ : SdS X 0 [(0, 20), (1, 0)] [] (E_X10_wideIn Q))
  unfold E_X10_wideIn
  refine su_iload_n hC dX10_wideIn_0 rfl (by decide) (?_ : SdS X 1 [(0, 20), (1, 0)] [0] _)
  refine su_iconst hC dX10_wideIn_1 ⟨by decide, by decide⟩ (?_ : SdS X 2 [(0, 20), (1, 0)] [0, 0] _)
  refine su_icmp_ne (tgt := 12) hC dX10_wideIn_2 rfl (?_ : SdS X 12 [(0, 20), (1, 0)] [] _) (?_ : SdS X 5 [(0, 20), (1, 0)] [] _)
  · refine su_aload_n hC 20 dX10_wideIn_12 rfl (by decide) (by decide) (?_ : SdS X 13 [(0, 20), (1, 0)] [20] _)
    refine su_getF hC (ci := 10) (j := 19) (C := RX10) (T := TX10) (N := 45) rfl rfl (by decide) in_X10 wl_5_183 rfl dX10_wideIn_13 (?_ : SdS X 16 [(0, 20), (1, 0)] [0] _)
    exact SdS.weak (by decide) (S_16)
  · refine su_aload_n hC 20 dX10_wideIn_5 rfl (by decide) (by decide) (?_ : SdS X 6 [(0, 20), (1, 0)] [20] _)
    refine su_getF hC (ci := 10) (j := 20) (C := RX10) (T := TX10) (N := 45) rfl rfl (by decide) in_X10 wl_5_184 rfl dX10_wideIn_6 (?_ : SdS X 9 [(0, 20), (1, 0)] [0] _)
    refine su_goto (tgt := 16) hC dX10_wideIn_9 rfl (?_ : SdS X 16 [(0, 20), (1, 0)] [0] _)
    exact SdS.weak (by decide) (S_16)
theorem wl_7_122 : Cond.methodLink RX10 378 yX10_hasPose ∈ WALL := tb7 (List.mem_of_getElem? (i := 122) rfl) rfl
theorem wl_7_124 : Cond.instanceMethod yX10_hasPose ∈ WALL := tb7 (List.mem_of_getElem? (i := 124) rfl) rfl
theorem wp_94 : Cond.selects RX10 yX10_hasPose yX10_hasPose ∈ WALL := tbS (List.mem_of_getElem? (i := 94) rfl)
theorem wl_7_125 : Cond.code yX10_hasPose cX10_hasPose 2 (some .boolean) ∈ WALL := tb7 (List.mem_of_getElem? (i := 125) rfl) rfl
theorem wl_7_126 : Cond.methodLink RX10 369 yX10_wideIn ∈ WALL := tb7 (List.mem_of_getElem? (i := 126) rfl) rfl
theorem wl_7_128 : Cond.instanceMethod yX10_wideIn ∈ WALL := tb7 (List.mem_of_getElem? (i := 128) rfl) rfl
theorem wp_95 : Cond.selects RX10 yX10_wideIn yX10_wideIn ∈ WALL := tbS (List.mem_of_getElem? (i := 95) rfl)
theorem wl_7_129 : Cond.code yX10_wideIn cX10_wideIn 2 (some .int) ∈ WALL := tb7 (List.mem_of_getElem? (i := 129) rfl) rfl
theorem hd_X10_fitsRing : yX10_fitsRing.cls ≠ "java/lang/invoke/MethodHandle" ∧ yX10_fitsRing.cls ≠ "java/lang/invoke/VarHandle" ∧ (parseMethodDescriptor yX10_fitsRing.desc).map (fun d => d.parameters.length) = some 1 := by decide +kernel
set_option maxRecDepth 100000 in
set_option maxHeartbeats 4000000 in
theorem M_X10_fitsRing (l : Launch) : MtS l yX10_fitsRing (Cond.code yX10_fitsRing cX10_fitsRing 3 (some .boolean) :: WALL) { frames := 1, cells := 0, slots := 0, locals := 21 } [20, 0] (some 0) T_X10_fitsRing := by
  refine MtS.mk (B := E_X10_fitsRing) (by decide +kernel) (by decide) (fun _ _ _ hh => hh) ?_
  intro X Q e1 e2 e3 hC hN hT
  subst e1
  have hC : CF X cX10_fitsRing RX10 WALL := hC
  have S_34 : ∀ (k2 : xK), SdS X 2 [(0, 20), (1, 0), (2, 0)] [] k2 → SdS X 34 [(0, 20), (1, 0), (2, 0)] [] (B_X10_fitsRing_34 Q k2) := by
    intro k2 h2
    unfold B_X10_fitsRing_34
    refine su_iinc (Γ' := [(0, 20), (1, 0), (2, 0)]) hC dX10_fitsRing_34 (by decide) (by rw [e2]; decide) (by decide) (?_ : SdS X 37 [(0, 20), (1, 0), (2, 0)] [] _)
    refine su_goto (tgt := 2) hC dX10_fitsRing_37 rfl (?_ : SdS X 2 [(0, 20), (1, 0), (2, 0)] [] _)
    exact SdS.weak (by decide) h2
  have S_2 : SdS X 2 [(0, 20), (1, 0), (2, 0)] [] (L_X10_fitsRing_2 Q) := by
    unfold L_X10_fitsRing_2
    refine SdS.loop (fun k2 h2 => ?_)
    refine su_iload_n hC dX10_fitsRing_2 rfl (by decide) (?_ : SdS X 3 [(0, 20), (1, 0), (2, 0)] [0] _)
    refine su_iconst hC dX10_fitsRing_3 ⟨by decide, by decide⟩ (?_ : SdS X 4 [(0, 20), (1, 0), (2, 0)] [0, 0] _)
    refine su_icmp_ge (tgt := 40) hC dX10_fitsRing_4 rfl (?_ : SdS X 40 [(0, 20), (1, 0), (2, 0)] [] _) (?_ : SdS X 7 [(0, 20), (1, 0), (2, 0)] [] _)
    · refine su_iconst hC dX10_fitsRing_40 ⟨by decide, by decide⟩ (?_ : SdS X 41 [(0, 20), (1, 0), (2, 0)] [0] _)
      exact su_zreturn hC hT dX10_fitsRing_41
    · refine su_aload_n hC 20 dX10_fitsRing_7 rfl (by decide) (by decide) (?_ : SdS X 8 [(0, 20), (1, 0), (2, 0)] [20] _)
      refine su_iload_n hC dX10_fitsRing_8 rfl (by decide) (?_ : SdS X 9 [(0, 20), (1, 0), (2, 0)] [0, 20] _)
      refine su_inv0 (τ := []) (τr := [0]) (ci := 10) (q := (RX10, TX10, 45)) hC WG (M_X10_hasPose _) rfl rfl rfl rfl  rfl rfl wl_7_122 wl_7_124 wp_94 wl_1_10 wl_7_125 hd_X10_hasPose (by rw [e3]; decide) (by decide) dX10_fitsRing_9 (?_ : SdS X 12 [(0, 20), (1, 0), (2, 0)] [0] _)
      refine su_if_eq (tgt := 34) hC dX10_fitsRing_12 rfl (?_ : SdS X 34 [(0, 20), (1, 0), (2, 0)] [] _) (?_ : SdS X 15 [(0, 20), (1, 0), (2, 0)] [] _)
      · exact SdS.weak (by decide) (S_34 k2 h2)
      · refine su_aload_n hC 20 dX10_fitsRing_15 rfl (by decide) (by decide) (?_ : SdS X 16 [(0, 20), (1, 0), (2, 0)] [20] _)
        refine su_iload_n hC dX10_fitsRing_16 rfl (by decide) (?_ : SdS X 17 [(0, 20), (1, 0), (2, 0)] [0, 20] _)
        refine su_inv0 (τ := []) (τr := [0]) (ci := 10) (q := (RX10, TX10, 45)) hC WG (M_X10_wideIn _) rfl rfl rfl rfl  rfl rfl wl_7_126 wl_7_128 wp_95 wl_1_10 wl_7_129 hd_X10_wideIn (by rw [e3]; decide) (by decide) dX10_fitsRing_17 (?_ : SdS X 20 [(0, 20), (1, 0), (2, 0)] [0] _)
        refine su_aload_n hC 20 dX10_fitsRing_20 rfl (by decide) (by decide) (?_ : SdS X 21 [(0, 20), (1, 0), (2, 0)] [20, 0] _)
        refine su_getR hC (ci := 10) (j := 3) (C := RX10) (T := TX10) (N := 45) rfl rfl (by decide) in_X10 wl_5_167 rfl dX10_fitsRing_21 (?_ : SdS X 24 [(0, 20), (1, 0), (2, 0)] [19, 0] _)
        refine su_getRN hC (ci := 9) (j := 6) (C := RX9) (T := TX9) (N := 28) (host := "NarrowRingsModel") rfl rfl (by decide) in_X9 (by decide) rfl dX10_fitsRing_24 (?_ : SdS X 27 [(0, 20), (1, 0), (2, 0)] [100, 0] _)
        refine su_iload_n hC dX10_fitsRing_27 rfl (by decide) (?_ : SdS X 28 [(0, 20), (1, 0), (2, 0)] [0, 100, 0] _)
        refine su_iaload hC dX10_fitsRing_28 (?_ : SdS X 29 [(0, 20), (1, 0), (2, 0)] [0, 0] _)
        refine su_icmp_gt (tgt := 34) hC dX10_fitsRing_29 rfl (?_ : SdS X 34 [(0, 20), (1, 0), (2, 0)] [] _) (?_ : SdS X 32 [(0, 20), (1, 0), (2, 0)] [] _)
        · exact SdS.weak (by decide) (S_34 k2 h2)
        · refine su_iconst hC dX10_fitsRing_32 ⟨by decide, by decide⟩ (?_ : SdS X 33 [(0, 20), (1, 0), (2, 0)] [0] _)
          exact su_zreturn hC hT dX10_fitsRing_33
  refine (?_ : SdS X 0 [(0, 20), (1, 0)] [] (E_X10_fitsRing Q))
  unfold E_X10_fitsRing
  refine su_iconst hC dX10_fitsRing_0 ⟨by decide, by decide⟩ (?_ : SdS X 1 [(0, 20), (1, 0)] [0] _)
  refine su_istore_n (Γ' := [(0, 20), (1, 0), (2, 0)]) hC dX10_fitsRing_1 rfl (by rw [e2]; decide) (by decide) (?_ : SdS X 2 [(0, 20), (1, 0), (2, 0)] [] _)
  exact SdS.weak (by decide) (S_2)
theorem wl_7_118 : Cond.methodLink RX10 387 yX10_fitsRing ∈ WALL := tb7 (List.mem_of_getElem? (i := 118) rfl) rfl
theorem wl_7_120 : Cond.instanceMethod yX10_fitsRing ∈ WALL := tb7 (List.mem_of_getElem? (i := 120) rfl) rfl
theorem wp_93 : Cond.selects RX10 yX10_fitsRing yX10_fitsRing ∈ WALL := tbS (List.mem_of_getElem? (i := 93) rfl)
theorem wl_7_121 : Cond.code yX10_fitsRing cX10_fitsRing 3 (some .boolean) ∈ WALL := tb7 (List.mem_of_getElem? (i := 121) rfl) rfl
theorem hd_X10_isBorne : yX10_isBorne.cls ≠ "java/lang/invoke/MethodHandle" ∧ yX10_isBorne.cls ≠ "java/lang/invoke/VarHandle" ∧ (parseMethodDescriptor yX10_isBorne.desc).map (fun d => d.parameters.length) = some 1 := by decide +kernel
set_option maxRecDepth 100000 in
set_option maxHeartbeats 4000000 in
theorem M_X10_isBorne (l : Launch) : MtS l yX10_isBorne (Cond.code yX10_isBorne cX10_isBorne 4 (some .boolean) :: WALL) { frames := 2, cells := 0, slots := 0, locals := 43 } [20, 0] (some 0) T_X10_isBorne := by
  refine MtS.mk (B := E_X10_isBorne) (by decide +kernel) (by decide) (fun _ _ _ hh => hh) ?_
  intro X Q e1 e2 e3 hC hN hT
  subst e1
  have hC : CF X cX10_isBorne RX10 WALL := hC
  have S_77 : SdS X 77 [(0, 20), (1, 0), (2, 0), (3, 0)] [0] (B_X10_isBorne_77 Q) := by
    unfold B_X10_isBorne_77
    exact su_zreturn hC hT dX10_isBorne_77
  have S_76 : SdS X 76 [(0, 20), (1, 0), (2, 0), (3, 0)] [] (B_X10_isBorne_76 Q) := by
    unfold B_X10_isBorne_76
    refine su_iconst hC dX10_isBorne_76 ⟨by decide, by decide⟩ (?_ : SdS X 77 [(0, 20), (1, 0), (2, 0), (3, 0)] [0] _)
    exact SdS.weak (by decide) (S_77)
  have S_53 : ∀ (k4 : xK), SdS X 4 [(0, 20), (1, 0), (2, 0), (3, 0)] [] k4 → SdS X 53 [(0, 20), (1, 0), (2, 0), (3, 0)] [0] (B_X10_isBorne_53 Q k4) := by
    intro k4 h4
    unfold B_X10_isBorne_53
    refine su_istore_n (Γ' := [(0, 20), (1, 0), (2, 0), (3, 0)]) hC dX10_isBorne_53 rfl (by rw [e2]; decide) (by decide) (?_ : SdS X 54 [(0, 20), (1, 0), (2, 0), (3, 0)] [] _)
    refine su_iinc (Γ' := [(0, 20), (1, 0), (2, 0), (3, 0)]) hC dX10_isBorne_54 (by decide) (by rw [e2]; decide) (by decide) (?_ : SdS X 57 [(0, 20), (1, 0), (2, 0), (3, 0)] [] _)
    refine su_goto (tgt := 4) hC dX10_isBorne_57 rfl (?_ : SdS X 4 [(0, 20), (1, 0), (2, 0), (3, 0)] [] _)
    exact SdS.weak (by decide) h4
  have S_48 : ∀ (k4 : xK), SdS X 4 [(0, 20), (1, 0), (2, 0), (3, 0)] [] k4 → SdS X 48 [(0, 20), (1, 0), (2, 0), (3, 0)] [] (B_X10_isBorne_48 Q k4) := by
    intro k4 h4
    unfold B_X10_isBorne_48
    refine su_iconst hC dX10_isBorne_48 ⟨by decide, by decide⟩ (?_ : SdS X 49 [(0, 20), (1, 0), (2, 0), (3, 0)] [0] _)
    refine su_goto (tgt := 53) hC dX10_isBorne_49 rfl (?_ : SdS X 53 [(0, 20), (1, 0), (2, 0), (3, 0)] [0] _)
    exact SdS.weak (by decide) (S_53 k4 h4)
  have S_52 : ∀ (k4 : xK), SdS X 4 [(0, 20), (1, 0), (2, 0), (3, 0)] [] k4 → SdS X 52 [(0, 20), (1, 0), (2, 0), (3, 0)] [] (B_X10_isBorne_52 Q k4) := by
    intro k4 h4
    unfold B_X10_isBorne_52
    refine su_iconst hC dX10_isBorne_52 ⟨by decide, by decide⟩ (?_ : SdS X 53 [(0, 20), (1, 0), (2, 0), (3, 0)] [0] _)
    exact SdS.weak (by decide) (S_53 k4 h4)
  have S_4 : SdS X 4 [(0, 20), (1, 0), (2, 0), (3, 0)] [] (L_X10_isBorne_4 Q) := by
    unfold L_X10_isBorne_4
    refine SdS.loop (fun k4 h4 => ?_)
    refine su_iload_n hC dX10_isBorne_4 rfl (by decide) (?_ : SdS X 5 [(0, 20), (1, 0), (2, 0), (3, 0)] [0] _)
    refine su_aload_n hC 20 dX10_isBorne_5 rfl (by decide) (by decide) (?_ : SdS X 6 [(0, 20), (1, 0), (2, 0), (3, 0)] [20, 0] _)
    refine su_getR hC (ci := 10) (j := 3) (C := RX10) (T := TX10) (N := 45) rfl rfl (by decide) in_X10 wl_5_167 rfl dX10_isBorne_6 (?_ : SdS X 9 [(0, 20), (1, 0), (2, 0), (3, 0)] [19, 0] _)
    refine su_getFN hC (ci := 9) (j := 2) (C := RX9) (T := TX9) (N := 28) (host := "NarrowRingsModel") rfl rfl (by decide) in_X9 (by decide) rfl dX10_isBorne_9 (?_ : SdS X 12 [(0, 20), (1, 0), (2, 0), (3, 0)] [0, 0] _)
    refine su_icmp_ge (tgt := 60) hC dX10_isBorne_12 rfl (?_ : SdS X 60 [(0, 20), (1, 0), (2, 0), (3, 0)] [] _) (?_ : SdS X 15 [(0, 20), (1, 0), (2, 0), (3, 0)] [] _)
    · refine su_iload_n hC dX10_isBorne_60 rfl (by decide) (?_ : SdS X 61 [(0, 20), (1, 0), (2, 0), (3, 0)] [0] _)
      refine su_if_eq (tgt := 76) hC dX10_isBorne_61 rfl (?_ : SdS X 76 [(0, 20), (1, 0), (2, 0), (3, 0)] [] _) (?_ : SdS X 64 [(0, 20), (1, 0), (2, 0), (3, 0)] [] _)
      · exact SdS.weak (by decide) (S_76)
      · refine su_aload_n hC 20 dX10_isBorne_64 rfl (by decide) (by decide) (?_ : SdS X 65 [(0, 20), (1, 0), (2, 0), (3, 0)] [20] _)
        refine su_iload_n hC dX10_isBorne_65 rfl (by decide) (?_ : SdS X 66 [(0, 20), (1, 0), (2, 0), (3, 0)] [0, 20] _)
        refine su_inv0 (τ := []) (τr := [0]) (ci := 10) (q := (RX10, TX10, 45)) hC WG (M_X10_fitsRing _) rfl rfl rfl rfl  rfl rfl wl_7_118 wl_7_120 wp_93 wl_1_10 wl_7_121 hd_X10_fitsRing (by rw [e3]; decide) (by decide) dX10_isBorne_66 (?_ : SdS X 69 [(0, 20), (1, 0), (2, 0), (3, 0)] [0] _)
        refine su_if_eq (tgt := 76) hC dX10_isBorne_69 rfl (?_ : SdS X 76 [(0, 20), (1, 0), (2, 0), (3, 0)] [] _) (?_ : SdS X 72 [(0, 20), (1, 0), (2, 0), (3, 0)] [] _)
        · exact SdS.weak (by decide) (S_76)
        · refine su_iconst hC dX10_isBorne_72 ⟨by decide, by decide⟩ (?_ : SdS X 73 [(0, 20), (1, 0), (2, 0), (3, 0)] [0] _)
          refine su_goto (tgt := 77) hC dX10_isBorne_73 rfl (?_ : SdS X 77 [(0, 20), (1, 0), (2, 0), (3, 0)] [0] _)
          exact SdS.weak (by decide) (S_77)
    · refine su_iload_n hC dX10_isBorne_15 rfl (by decide) (?_ : SdS X 16 [(0, 20), (1, 0), (2, 0), (3, 0)] [0] _)
      refine su_if_ne (tgt := 48) hC dX10_isBorne_16 rfl (?_ : SdS X 48 [(0, 20), (1, 0), (2, 0), (3, 0)] [] _) (?_ : SdS X 19 [(0, 20), (1, 0), (2, 0), (3, 0)] [] _)
      · exact SdS.weak (by decide) (S_48 k4 h4)
      · refine su_aload_n hC 20 dX10_isBorne_19 rfl (by decide) (by decide) (?_ : SdS X 20 [(0, 20), (1, 0), (2, 0), (3, 0)] [20] _)
        refine su_getR hC (ci := 10) (j := 3) (C := RX10) (T := TX10) (N := 45) rfl rfl (by decide) in_X10 wl_5_167 rfl dX10_isBorne_20 (?_ : SdS X 23 [(0, 20), (1, 0), (2, 0), (3, 0)] [19] _)
        refine su_getRN hC (ci := 9) (j := 13) (C := RX9) (T := TX9) (N := 28) (host := "NarrowRingsModel") rfl rfl (by decide) in_X9 (by decide) rfl dX10_isBorne_23 (?_ : SdS X 26 [(0, 20), (1, 0), (2, 0), (3, 0)] [100] _)
        refine su_iload_n hC dX10_isBorne_26 rfl (by decide) (?_ : SdS X 27 [(0, 20), (1, 0), (2, 0), (3, 0)] [0, 100] _)
        refine su_iaload hC dX10_isBorne_27 (?_ : SdS X 28 [(0, 20), (1, 0), (2, 0), (3, 0)] [0] _)
        refine su_iload_n hC dX10_isBorne_28 rfl (by decide) (?_ : SdS X 29 [(0, 20), (1, 0), (2, 0), (3, 0)] [0, 0] _)
        refine su_icmp_ne (tgt := 52) hC dX10_isBorne_29 rfl (?_ : SdS X 52 [(0, 20), (1, 0), (2, 0), (3, 0)] [] _) (?_ : SdS X 32 [(0, 20), (1, 0), (2, 0), (3, 0)] [] _)
        · exact SdS.weak (by decide) (S_52 k4 h4)
        · refine su_aload_n hC 20 dX10_isBorne_32 rfl (by decide) (by decide) (?_ : SdS X 33 [(0, 20), (1, 0), (2, 0), (3, 0)] [20] _)
          refine su_getR hC (ci := 10) (j := 3) (C := RX10) (T := TX10) (N := 45) rfl rfl (by decide) in_X10 wl_5_167 rfl dX10_isBorne_33 (?_ : SdS X 36 [(0, 20), (1, 0), (2, 0), (3, 0)] [19] _)
          refine su_getRN hC (ci := 9) (j := 14) (C := RX9) (T := TX9) (N := 28) (host := "NarrowRingsModel") rfl rfl (by decide) in_X9 (by decide) rfl dX10_isBorne_36 (?_ : SdS X 39 [(0, 20), (1, 0), (2, 0), (3, 0)] [100] _)
          refine su_iload_n hC dX10_isBorne_39 rfl (by decide) (?_ : SdS X 40 [(0, 20), (1, 0), (2, 0), (3, 0)] [0, 100] _)
          refine su_iaload hC dX10_isBorne_40 (?_ : SdS X 41 [(0, 20), (1, 0), (2, 0), (3, 0)] [0] _)
          refine su_aload_n hC 20 dX10_isBorne_41 rfl (by decide) (by decide) (?_ : SdS X 42 [(0, 20), (1, 0), (2, 0), (3, 0)] [20, 0] _)
          refine su_getF hC (ci := 10) (j := 21) (C := RX10) (T := TX10) (N := 45) rfl rfl (by decide) in_X10 wl_5_185 rfl dX10_isBorne_42 (?_ : SdS X 45 [(0, 20), (1, 0), (2, 0), (3, 0)] [0, 0] _)
          refine su_icmp_lt (tgt := 52) hC dX10_isBorne_45 rfl (?_ : SdS X 52 [(0, 20), (1, 0), (2, 0), (3, 0)] [] _) (?_ : SdS X 48 [(0, 20), (1, 0), (2, 0), (3, 0)] [] _)
          · exact SdS.weak (by decide) (S_52 k4 h4)
          · exact SdS.weak (by decide) (S_48 k4 h4)
  refine (?_ : SdS X 0 [(0, 20), (1, 0)] [] (E_X10_isBorne Q))
  unfold E_X10_isBorne
  refine su_iconst hC dX10_isBorne_0 ⟨by decide, by decide⟩ (?_ : SdS X 1 [(0, 20), (1, 0)] [0] _)
  refine su_istore_n (Γ' := [(0, 20), (1, 0), (2, 0)]) hC dX10_isBorne_1 rfl (by rw [e2]; decide) (by decide) (?_ : SdS X 2 [(0, 20), (1, 0), (2, 0)] [] _)
  refine su_iconst hC dX10_isBorne_2 ⟨by decide, by decide⟩ (?_ : SdS X 3 [(0, 20), (1, 0), (2, 0)] [0] _)
  refine su_istore_n (Γ' := [(0, 20), (1, 0), (2, 0), (3, 0)]) hC dX10_isBorne_3 rfl (by rw [e2]; decide) (by decide) (?_ : SdS X 4 [(0, 20), (1, 0), (2, 0), (3, 0)] [] _)
  exact SdS.weak (by decide) (S_4)
theorem wl_5_180 : Cond.fieldLink RX10 17 "NarrowRingsModel" "gate" "[I" ∈ WALL := tb5 (List.mem_of_getElem? (i := 180) rfl) rfl
theorem hd_X10_of : yX10_of.cls ≠ "java/lang/invoke/MethodHandle" ∧ yX10_of.cls ≠ "java/lang/invoke/VarHandle" ∧ (parseMethodDescriptor yX10_of.desc).map (fun d => d.parameters.length) = some 2 := by decide +kernel
set_option maxRecDepth 100000 in
set_option maxHeartbeats 4000000 in
theorem M_X10_of (l : Launch) : MtS l yX10_of (Cond.code yX10_of cX10_of 3 (some .int) :: WALL) { frames := 0, cells := 0, slots := 0, locals := 0 } [20, 0, 0] (some 0) T_X10_of := by
  refine MtS.mk (B := E_X10_of) (by decide +kernel) (by decide) (fun _ _ _ hh => hh) ?_
  intro X Q e1 e2 e3 hC hN hT
  subst e1
  have hC : CF X cX10_of RX10 WALL := hC
  refine (?_ : SdS X 0 [(0, 20), (1, 0), (2, 0)] [] (E_X10_of Q))
  unfold E_X10_of
  refine su_aload_n hC 20 dX10_of_0 rfl (by decide) (by decide) (?_ : SdS X 1 [(0, 20), (1, 0), (2, 0)] [20] _)
  refine su_getR hC (ci := 10) (j := 16) (C := RX10) (T := TX10) (N := 45) rfl rfl (by decide) in_X10 wl_5_180 rfl dX10_of_1 (?_ : SdS X 4 [(0, 20), (1, 0), (2, 0)] [100] _)
  refine su_bipush hC dX10_of_4 (by decide) (?_ : SdS X 6 [(0, 20), (1, 0), (2, 0)] [0, 100] _)
  refine su_iload_n hC dX10_of_6 rfl (by decide) (?_ : SdS X 7 [(0, 20), (1, 0), (2, 0)] [0, 0, 100] _)
  refine su_imul hC dX10_of_7 (?_ : SdS X 8 [(0, 20), (1, 0), (2, 0)] [0, 100] _)
  refine su_iload_n hC dX10_of_8 rfl (by decide) (?_ : SdS X 9 [(0, 20), (1, 0), (2, 0)] [0, 0, 100] _)
  refine su_iadd hC dX10_of_9 (?_ : SdS X 10 [(0, 20), (1, 0), (2, 0)] [0, 100] _)
  refine su_iaload hC dX10_of_10 (?_ : SdS X 11 [(0, 20), (1, 0), (2, 0)] [0] _)
  exact su_ireturn hC hT dX10_of_11
theorem hd_X10_highIn : yX10_highIn.cls ≠ "java/lang/invoke/MethodHandle" ∧ yX10_highIn.cls ≠ "java/lang/invoke/VarHandle" ∧ (parseMethodDescriptor yX10_highIn.desc).map (fun d => d.parameters.length) = some 1 := by decide +kernel
set_option maxRecDepth 100000 in
set_option maxHeartbeats 4000000 in
theorem M_X10_highIn (l : Launch) : MtS l yX10_highIn (Cond.code yX10_highIn cX10_highIn 2 (some .int) :: WALL) { frames := 0, cells := 0, slots := 0, locals := 0 } [20, 0] (some 0) T_X10_highIn := by
  refine MtS.mk (B := E_X10_highIn) (by decide +kernel) (by decide) (fun _ _ _ hh => hh) ?_
  intro X Q e1 e2 e3 hC hN hT
  subst e1
  have hC : CF X cX10_highIn RX10 WALL := hC
  have S_27 : SdS X 27 [(0, 20), (1, 0)] [0] (B_X10_highIn_27 Q) := by
    unfold B_X10_highIn_27
    exact su_ireturn hC hT dX10_highIn_27
  refine (?_ : SdS X 0 [(0, 20), (1, 0)] [] (E_X10_highIn Q))
  unfold E_X10_highIn
  refine su_iload_n hC dX10_highIn_0 rfl (by decide) (?_ : SdS X 1 [(0, 20), (1, 0)] [0] _)
  refine su_if_ne (tgt := 11) hC dX10_highIn_1 rfl (?_ : SdS X 11 [(0, 20), (1, 0)] [] _) (?_ : SdS X 4 [(0, 20), (1, 0)] [] _)
  · refine su_iload_n hC dX10_highIn_11 rfl (by decide) (?_ : SdS X 12 [(0, 20), (1, 0)] [0] _)
    refine su_iconst hC dX10_highIn_12 ⟨by decide, by decide⟩ (?_ : SdS X 13 [(0, 20), (1, 0)] [0, 0] _)
    refine su_icmp_ne (tgt := 23) hC dX10_highIn_13 rfl (?_ : SdS X 23 [(0, 20), (1, 0)] [] _) (?_ : SdS X 16 [(0, 20), (1, 0)] [] _)
    · refine su_aload_n hC 20 dX10_highIn_23 rfl (by decide) (by decide) (?_ : SdS X 24 [(0, 20), (1, 0)] [20] _)
      refine su_getF hC (ci := 10) (j := 18) (C := RX10) (T := TX10) (N := 45) rfl rfl (by decide) in_X10 wl_5_182 rfl dX10_highIn_24 (?_ : SdS X 27 [(0, 20), (1, 0)] [0] _)
      exact SdS.weak (by decide) (S_27)
    · refine su_aload_n hC 20 dX10_highIn_16 rfl (by decide) (by decide) (?_ : SdS X 17 [(0, 20), (1, 0)] [20] _)
      refine su_getF hC (ci := 10) (j := 19) (C := RX10) (T := TX10) (N := 45) rfl rfl (by decide) in_X10 wl_5_183 rfl dX10_highIn_17 (?_ : SdS X 20 [(0, 20), (1, 0)] [0] _)
      refine su_goto (tgt := 27) hC dX10_highIn_20 rfl (?_ : SdS X 27 [(0, 20), (1, 0)] [0] _)
      exact SdS.weak (by decide) (S_27)
  · refine su_aload_n hC 20 dX10_highIn_4 rfl (by decide) (by decide) (?_ : SdS X 5 [(0, 20), (1, 0)] [20] _)
    refine su_getF hC (ci := 10) (j := 20) (C := RX10) (T := TX10) (N := 45) rfl rfl (by decide) in_X10 wl_5_184 rfl dX10_highIn_5 (?_ : SdS X 8 [(0, 20), (1, 0)] [0] _)
    refine su_goto (tgt := 27) hC dX10_highIn_8 rfl (?_ : SdS X 27 [(0, 20), (1, 0)] [0] _)
    exact SdS.weak (by decide) (S_27)
theorem hd_X10_longIn : yX10_longIn.cls ≠ "java/lang/invoke/MethodHandle" ∧ yX10_longIn.cls ≠ "java/lang/invoke/VarHandle" ∧ (parseMethodDescriptor yX10_longIn.desc).map (fun d => d.parameters.length) = some 1 := by decide +kernel
set_option maxRecDepth 100000 in
set_option maxHeartbeats 4000000 in
theorem M_X10_longIn (l : Launch) : MtS l yX10_longIn (Cond.code yX10_longIn cX10_longIn 2 (some .int) :: WALL) { frames := 0, cells := 0, slots := 0, locals := 0 } [20, 0] (some 0) T_X10_longIn := by
  refine MtS.mk (B := E_X10_longIn) (by decide +kernel) (by decide) (fun _ _ _ hh => hh) ?_
  intro X Q e1 e2 e3 hC hN hT
  subst e1
  have hC : CF X cX10_longIn RX10 WALL := hC
  have S_16 : SdS X 16 [(0, 20), (1, 0)] [0] (B_X10_longIn_16 Q) := by
    unfold B_X10_longIn_16
    exact su_ireturn hC hT dX10_longIn_16
  refine (?_ : SdS X 0 [(0, 20), (1, 0)] [] (E_X10_longIn Q))
  unfold E_X10_longIn
  refine su_iload_n hC dX10_longIn_0 rfl (by decide) (?_ : SdS X 1 [(0, 20), (1, 0)] [0] _)
  refine su_iconst hC dX10_longIn_1 ⟨by decide, by decide⟩ (?_ : SdS X 2 [(0, 20), (1, 0)] [0, 0] _)
  refine su_icmp_ne (tgt := 12) hC dX10_longIn_2 rfl (?_ : SdS X 12 [(0, 20), (1, 0)] [] _) (?_ : SdS X 5 [(0, 20), (1, 0)] [] _)
  · refine su_aload_n hC 20 dX10_longIn_12 rfl (by decide) (by decide) (?_ : SdS X 13 [(0, 20), (1, 0)] [20] _)
    refine su_getF hC (ci := 10) (j := 18) (C := RX10) (T := TX10) (N := 45) rfl rfl (by decide) in_X10 wl_5_182 rfl dX10_longIn_13 (?_ : SdS X 16 [(0, 20), (1, 0)] [0] _)
    exact SdS.weak (by decide) (S_16)
  · refine su_aload_n hC 20 dX10_longIn_5 rfl (by decide) (by decide) (?_ : SdS X 6 [(0, 20), (1, 0)] [20] _)
    refine su_getF hC (ci := 10) (j := 20) (C := RX10) (T := TX10) (N := 45) rfl rfl (by decide) in_X10 wl_5_184 rfl dX10_longIn_6 (?_ : SdS X 9 [(0, 20), (1, 0)] [0] _)
    refine su_goto (tgt := 16) hC dX10_longIn_9 rfl (?_ : SdS X 16 [(0, 20), (1, 0)] [0] _)
    exact SdS.weak (by decide) (S_16)
theorem wl_7_131 : Cond.methodLink RX10 349 yX10_of ∈ WALL := tb7 (List.mem_of_getElem? (i := 131) rfl) rfl
theorem wl_7_133 : Cond.instanceMethod yX10_of ∈ WALL := tb7 (List.mem_of_getElem? (i := 133) rfl) rfl
theorem wp_96 : Cond.selects RX10 yX10_of yX10_of ∈ WALL := tbS (List.mem_of_getElem? (i := 96) rfl)
theorem wl_7_134 : Cond.code yX10_of cX10_of 3 (some .int) ∈ WALL := tb7 (List.mem_of_getElem? (i := 134) rfl) rfl
theorem wl_7_147 : Cond.methodLink RX10 372 yX10_highIn ∈ WALL := tb7 (List.mem_of_getElem? (i := 147) rfl) rfl
theorem wl_7_149 : Cond.instanceMethod yX10_highIn ∈ WALL := tb7 (List.mem_of_getElem? (i := 149) rfl) rfl
theorem wp_100 : Cond.selects RX10 yX10_highIn yX10_highIn ∈ WALL := tbS (List.mem_of_getElem? (i := 100) rfl)
theorem wl_7_150 : Cond.code yX10_highIn cX10_highIn 2 (some .int) ∈ WALL := tb7 (List.mem_of_getElem? (i := 150) rfl) rfl
theorem wl_7_151 : Cond.methodLink RX10 375 yX10_longIn ∈ WALL := tb7 (List.mem_of_getElem? (i := 151) rfl) rfl
theorem wl_7_153 : Cond.instanceMethod yX10_longIn ∈ WALL := tb7 (List.mem_of_getElem? (i := 153) rfl) rfl
theorem wp_101 : Cond.selects RX10 yX10_longIn yX10_longIn ∈ WALL := tbS (List.mem_of_getElem? (i := 101) rfl)
theorem wl_7_154 : Cond.code yX10_longIn cX10_longIn 2 (some .int) ∈ WALL := tb7 (List.mem_of_getElem? (i := 154) rfl) rfl
theorem hd_X10_meets : yX10_meets.cls ≠ "java/lang/invoke/MethodHandle" ∧ yX10_meets.cls ≠ "java/lang/invoke/VarHandle" ∧ (parseMethodDescriptor yX10_meets.desc).map (fun d => d.parameters.length) = some 2 := by decide +kernel
set_option maxRecDepth 100000 in
set_option maxHeartbeats 4000000 in
theorem M_X10_meets (l : Launch) : MtS l yX10_meets (Cond.code yX10_meets cX10_meets 5 (some .int) :: WALL) { frames := 1, cells := 0, slots := 0, locals := 22 } [20, 0, 0] (some 0) T_X10_meets := by
  refine MtS.mk (B := E_X10_meets) (by decide +kernel) (by decide) (fun _ _ _ hh => hh) ?_
  intro X Q e1 e2 e3 hC hN hT
  subst e1
  have hC : CF X cX10_meets RX10 WALL := hC
  have S_141 : SdS X 141 [(0, 20), (1, 0), (2, 0), (3, 0), (4, 0)] [0] (B_X10_meets_141 Q) := by
    unfold B_X10_meets_141
    exact su_ireturn hC hT dX10_meets_141
  refine (?_ : SdS X 0 [(0, 20), (1, 0), (2, 0)] [] (E_X10_meets Q))
  unfold E_X10_meets
  refine su_aload_n hC 20 dX10_meets_0 rfl (by decide) (by decide) (?_ : SdS X 1 [(0, 20), (1, 0), (2, 0)] [20] _)
  refine su_getR hC (ci := 10) (j := 3) (C := RX10) (T := TX10) (N := 45) rfl rfl (by decide) in_X10 wl_5_167 rfl dX10_meets_1 (?_ : SdS X 4 [(0, 20), (1, 0), (2, 0)] [19] _)
  refine su_getRN hC (ci := 9) (j := 6) (C := RX9) (T := TX9) (N := 28) (host := "NarrowRingsModel") rfl rfl (by decide) in_X9 (by decide) rfl dX10_meets_4 (?_ : SdS X 7 [(0, 20), (1, 0), (2, 0)] [100] _)
  refine su_aload_n hC 20 dX10_meets_7 rfl (by decide) (by decide) (?_ : SdS X 8 [(0, 20), (1, 0), (2, 0)] [20, 100] _)
  refine su_iload_n hC dX10_meets_8 rfl (by decide) (?_ : SdS X 9 [(0, 20), (1, 0), (2, 0)] [0, 20, 100] _)
  refine su_iconst hC dX10_meets_9 ⟨by decide, by decide⟩ (?_ : SdS X 10 [(0, 20), (1, 0), (2, 0)] [0, 0, 20, 100] _)
  refine su_inv0 (τ := [100]) (τr := [0, 0]) (ci := 10) (q := (RX10, TX10, 45)) hC WG (M_X10_of _) rfl rfl rfl rfl  rfl rfl wl_7_131 wl_7_133 wp_96 wl_1_10 wl_7_134 hd_X10_of (by rw [e3]; decide) (by decide) dX10_meets_10 (?_ : SdS X 13 [(0, 20), (1, 0), (2, 0)] [0, 100] _)
  refine su_iaload hC dX10_meets_13 (?_ : SdS X 14 [(0, 20), (1, 0), (2, 0)] [0] _)
  refine su_istore_n (Γ' := [(0, 20), (1, 0), (2, 0), (3, 0)]) hC dX10_meets_14 rfl (by rw [e2]; decide) (by decide) (?_ : SdS X 15 [(0, 20), (1, 0), (2, 0), (3, 0)] [] _)
  refine su_aload_n hC 20 dX10_meets_15 rfl (by decide) (by decide) (?_ : SdS X 16 [(0, 20), (1, 0), (2, 0), (3, 0)] [20] _)
  refine su_getR hC (ci := 10) (j := 3) (C := RX10) (T := TX10) (N := 45) rfl rfl (by decide) in_X10 wl_5_167 rfl dX10_meets_16 (?_ : SdS X 19 [(0, 20), (1, 0), (2, 0), (3, 0)] [19] _)
  refine su_getRN hC (ci := 9) (j := 6) (C := RX9) (T := TX9) (N := 28) (host := "NarrowRingsModel") rfl rfl (by decide) in_X9 (by decide) rfl dX10_meets_19 (?_ : SdS X 22 [(0, 20), (1, 0), (2, 0), (3, 0)] [100] _)
  refine su_aload_n hC 20 dX10_meets_22 rfl (by decide) (by decide) (?_ : SdS X 23 [(0, 20), (1, 0), (2, 0), (3, 0)] [20, 100] _)
  refine su_iload_n hC dX10_meets_23 rfl (by decide) (?_ : SdS X 24 [(0, 20), (1, 0), (2, 0), (3, 0)] [0, 20, 100] _)
  refine su_iconst hC dX10_meets_24 ⟨by decide, by decide⟩ (?_ : SdS X 25 [(0, 20), (1, 0), (2, 0), (3, 0)] [0, 0, 20, 100] _)
  refine su_inv0 (τ := [100]) (τr := [0, 0]) (ci := 10) (q := (RX10, TX10, 45)) hC WG (M_X10_of _) rfl rfl rfl rfl  rfl rfl wl_7_131 wl_7_133 wp_96 wl_1_10 wl_7_134 hd_X10_of (by rw [e3]; decide) (by decide) dX10_meets_25 (?_ : SdS X 28 [(0, 20), (1, 0), (2, 0), (3, 0)] [0, 100] _)
  refine su_iconst hC dX10_meets_28 ⟨by decide, by decide⟩ (?_ : SdS X 29 [(0, 20), (1, 0), (2, 0), (3, 0)] [0, 0, 100] _)
  refine su_iadd hC dX10_meets_29 (?_ : SdS X 30 [(0, 20), (1, 0), (2, 0), (3, 0)] [0, 100] _)
  refine su_iaload hC dX10_meets_30 (?_ : SdS X 31 [(0, 20), (1, 0), (2, 0), (3, 0)] [0] _)
  refine su_istore (Γ' := [(0, 20), (1, 0), (2, 0), (3, 0), (4, 0)]) hC dX10_meets_31 (by rw [e2]; decide) (by decide) (?_ : SdS X 33 [(0, 20), (1, 0), (2, 0), (3, 0), (4, 0)] [] _)
  refine su_aload_n hC 20 dX10_meets_33 rfl (by decide) (by decide) (?_ : SdS X 34 [(0, 20), (1, 0), (2, 0), (3, 0), (4, 0)] [20] _)
  refine su_iload_n hC dX10_meets_34 rfl (by decide) (?_ : SdS X 35 [(0, 20), (1, 0), (2, 0), (3, 0), (4, 0)] [0, 20] _)
  refine su_inv0 (τ := []) (τr := [0]) (ci := 10) (q := (RX10, TX10, 45)) hC WG (M_X10_wideIn _) rfl rfl rfl rfl  rfl rfl wl_7_126 wl_7_128 wp_95 wl_1_10 wl_7_129 hd_X10_wideIn (by rw [e3]; decide) (by decide) dX10_meets_35 (?_ : SdS X 38 [(0, 20), (1, 0), (2, 0), (3, 0), (4, 0)] [0] _)
  refine su_iload_n hC dX10_meets_38 rfl (by decide) (?_ : SdS X 39 [(0, 20), (1, 0), (2, 0), (3, 0), (4, 0)] [0, 0] _)
  refine su_icmp_le (tgt := 44) hC dX10_meets_39 rfl (?_ : SdS X 44 [(0, 20), (1, 0), (2, 0), (3, 0), (4, 0)] [] _) (?_ : SdS X 42 [(0, 20), (1, 0), (2, 0), (3, 0), (4, 0)] [] _)
  · refine su_aload_n hC 20 dX10_meets_44 rfl (by decide) (by decide) (?_ : SdS X 45 [(0, 20), (1, 0), (2, 0), (3, 0), (4, 0)] [20] _)
    refine su_iload_n hC dX10_meets_45 rfl (by decide) (?_ : SdS X 46 [(0, 20), (1, 0), (2, 0), (3, 0), (4, 0)] [0, 20] _)
    refine su_inv0 (τ := []) (τr := [0]) (ci := 10) (q := (RX10, TX10, 45)) hC WG (M_X10_wideIn _) rfl rfl rfl rfl  rfl rfl wl_7_126 wl_7_128 wp_95 wl_1_10 wl_7_129 hd_X10_wideIn (by rw [e3]; decide) (by decide) dX10_meets_46 (?_ : SdS X 49 [(0, 20), (1, 0), (2, 0), (3, 0), (4, 0)] [0] _)
    refine su_aload_n hC 20 dX10_meets_49 rfl (by decide) (by decide) (?_ : SdS X 50 [(0, 20), (1, 0), (2, 0), (3, 0), (4, 0)] [20, 0] _)
    refine su_iload_n hC dX10_meets_50 rfl (by decide) (?_ : SdS X 51 [(0, 20), (1, 0), (2, 0), (3, 0), (4, 0)] [0, 20, 0] _)
    refine su_iconst hC dX10_meets_51 ⟨by decide, by decide⟩ (?_ : SdS X 52 [(0, 20), (1, 0), (2, 0), (3, 0), (4, 0)] [0, 0, 20, 0] _)
    refine su_inv0 (τ := [0]) (τr := [0, 0]) (ci := 10) (q := (RX10, TX10, 45)) hC WG (M_X10_of _) rfl rfl rfl rfl  rfl rfl wl_7_131 wl_7_133 wp_96 wl_1_10 wl_7_134 hd_X10_of (by rw [e3]; decide) (by decide) dX10_meets_52 (?_ : SdS X 55 [(0, 20), (1, 0), (2, 0), (3, 0), (4, 0)] [0, 0] _)
    refine su_icmp_le (tgt := 60) hC dX10_meets_55 rfl (?_ : SdS X 60 [(0, 20), (1, 0), (2, 0), (3, 0), (4, 0)] [] _) (?_ : SdS X 58 [(0, 20), (1, 0), (2, 0), (3, 0), (4, 0)] [] _)
    · refine su_aload_n hC 20 dX10_meets_60 rfl (by decide) (by decide) (?_ : SdS X 61 [(0, 20), (1, 0), (2, 0), (3, 0), (4, 0)] [20] _)
      refine su_iload_n hC dX10_meets_61 rfl (by decide) (?_ : SdS X 62 [(0, 20), (1, 0), (2, 0), (3, 0), (4, 0)] [0, 20] _)
      refine su_inv0 (τ := []) (τr := [0]) (ci := 10) (q := (RX10, TX10, 45)) hC WG (M_X10_highIn _) rfl rfl rfl rfl  rfl rfl wl_7_147 wl_7_149 wp_100 wl_1_10 wl_7_150 hd_X10_highIn (by rw [e3]; decide) (by decide) dX10_meets_62 (?_ : SdS X 65 [(0, 20), (1, 0), (2, 0), (3, 0), (4, 0)] [0] _)
      refine su_aload_n hC 20 dX10_meets_65 rfl (by decide) (by decide) (?_ : SdS X 66 [(0, 20), (1, 0), (2, 0), (3, 0), (4, 0)] [20, 0] _)
      refine su_iload_n hC dX10_meets_66 rfl (by decide) (?_ : SdS X 67 [(0, 20), (1, 0), (2, 0), (3, 0), (4, 0)] [0, 20, 0] _)
      refine su_iconst hC dX10_meets_67 ⟨by decide, by decide⟩ (?_ : SdS X 68 [(0, 20), (1, 0), (2, 0), (3, 0), (4, 0)] [0, 0, 20, 0] _)
      refine su_inv0 (τ := [0]) (τr := [0, 0]) (ci := 10) (q := (RX10, TX10, 45)) hC WG (M_X10_of _) rfl rfl rfl rfl  rfl rfl wl_7_131 wl_7_133 wp_96 wl_1_10 wl_7_134 hd_X10_of (by rw [e3]; decide) (by decide) dX10_meets_68 (?_ : SdS X 71 [(0, 20), (1, 0), (2, 0), (3, 0), (4, 0)] [0, 0] _)
      refine su_icmp_le (tgt := 76) hC dX10_meets_71 rfl (?_ : SdS X 76 [(0, 20), (1, 0), (2, 0), (3, 0), (4, 0)] [] _) (?_ : SdS X 74 [(0, 20), (1, 0), (2, 0), (3, 0), (4, 0)] [] _)
      · refine su_aload_n hC 20 dX10_meets_76 rfl (by decide) (by decide) (?_ : SdS X 77 [(0, 20), (1, 0), (2, 0), (3, 0), (4, 0)] [20] _)
        refine su_iload_n hC dX10_meets_77 rfl (by decide) (?_ : SdS X 78 [(0, 20), (1, 0), (2, 0), (3, 0), (4, 0)] [0, 20] _)
        refine su_inv0 (τ := []) (τr := [0]) (ci := 10) (q := (RX10, TX10, 45)) hC WG (M_X10_wideIn _) rfl rfl rfl rfl  rfl rfl wl_7_126 wl_7_128 wp_95 wl_1_10 wl_7_129 hd_X10_wideIn (by rw [e3]; decide) (by decide) dX10_meets_78 (?_ : SdS X 81 [(0, 20), (1, 0), (2, 0), (3, 0), (4, 0)] [0] _)
        refine su_iload hC dX10_meets_81 (by decide) (?_ : SdS X 83 [(0, 20), (1, 0), (2, 0), (3, 0), (4, 0)] [0, 0] _)
        refine su_icmp_le (tgt := 88) hC dX10_meets_83 rfl (?_ : SdS X 88 [(0, 20), (1, 0), (2, 0), (3, 0), (4, 0)] [] _) (?_ : SdS X 86 [(0, 20), (1, 0), (2, 0), (3, 0), (4, 0)] [] _)
        · refine su_aload_n hC 20 dX10_meets_88 rfl (by decide) (by decide) (?_ : SdS X 89 [(0, 20), (1, 0), (2, 0), (3, 0), (4, 0)] [20] _)
          refine su_iload_n hC dX10_meets_89 rfl (by decide) (?_ : SdS X 90 [(0, 20), (1, 0), (2, 0), (3, 0), (4, 0)] [0, 20] _)
          refine su_inv0 (τ := []) (τr := [0]) (ci := 10) (q := (RX10, TX10, 45)) hC WG (M_X10_longIn _) rfl rfl rfl rfl  rfl rfl wl_7_151 wl_7_153 wp_101 wl_1_10 wl_7_154 hd_X10_longIn (by rw [e3]; decide) (by decide) dX10_meets_90 (?_ : SdS X 93 [(0, 20), (1, 0), (2, 0), (3, 0), (4, 0)] [0] _)
          refine su_aload_n hC 20 dX10_meets_93 rfl (by decide) (by decide) (?_ : SdS X 94 [(0, 20), (1, 0), (2, 0), (3, 0), (4, 0)] [20, 0] _)
          refine su_iload_n hC dX10_meets_94 rfl (by decide) (?_ : SdS X 95 [(0, 20), (1, 0), (2, 0), (3, 0), (4, 0)] [0, 20, 0] _)
          refine su_inv0 (τ := [0]) (τr := [0]) (ci := 10) (q := (RX10, TX10, 45)) hC WG (M_X10_wideIn _) rfl rfl rfl rfl  rfl rfl wl_7_126 wl_7_128 wp_95 wl_1_10 wl_7_129 hd_X10_wideIn (by rw [e3]; decide) (by decide) dX10_meets_95 (?_ : SdS X 98 [(0, 20), (1, 0), (2, 0), (3, 0), (4, 0)] [0, 0] _)
          refine su_iadd hC dX10_meets_98 (?_ : SdS X 99 [(0, 20), (1, 0), (2, 0), (3, 0), (4, 0)] [0] _)
          refine su_iload_n hC dX10_meets_99 rfl (by decide) (?_ : SdS X 100 [(0, 20), (1, 0), (2, 0), (3, 0), (4, 0)] [0, 0] _)
          refine su_aload_n hC 20 dX10_meets_100 rfl (by decide) (by decide) (?_ : SdS X 101 [(0, 20), (1, 0), (2, 0), (3, 0), (4, 0)] [20, 0, 0] _)
          refine su_iload_n hC dX10_meets_101 rfl (by decide) (?_ : SdS X 102 [(0, 20), (1, 0), (2, 0), (3, 0), (4, 0)] [0, 20, 0, 0] _)
          refine su_iconst hC dX10_meets_102 ⟨by decide, by decide⟩ (?_ : SdS X 103 [(0, 20), (1, 0), (2, 0), (3, 0), (4, 0)] [0, 0, 20, 0, 0] _)
          refine su_inv0 (τ := [0, 0]) (τr := [0, 0]) (ci := 10) (q := (RX10, TX10, 45)) hC WG (M_X10_of _) rfl rfl rfl rfl  rfl rfl wl_7_131 wl_7_133 wp_96 wl_1_10 wl_7_134 hd_X10_of (by rw [e3]; decide) (by decide) dX10_meets_103 (?_ : SdS X 106 [(0, 20), (1, 0), (2, 0), (3, 0), (4, 0)] [0, 0, 0] _)
          refine su_iadd hC dX10_meets_106 (?_ : SdS X 107 [(0, 20), (1, 0), (2, 0), (3, 0), (4, 0)] [0, 0] _)
          refine su_icmp_le (tgt := 112) hC dX10_meets_107 rfl (?_ : SdS X 112 [(0, 20), (1, 0), (2, 0), (3, 0), (4, 0)] [] _) (?_ : SdS X 110 [(0, 20), (1, 0), (2, 0), (3, 0), (4, 0)] [] _)
          · refine su_aload_n hC 20 dX10_meets_112 rfl (by decide) (by decide) (?_ : SdS X 113 [(0, 20), (1, 0), (2, 0), (3, 0), (4, 0)] [20] _)
            refine su_iload_n hC dX10_meets_113 rfl (by decide) (?_ : SdS X 114 [(0, 20), (1, 0), (2, 0), (3, 0), (4, 0)] [0, 20] _)
            refine su_inv0 (τ := []) (τr := [0]) (ci := 10) (q := (RX10, TX10, 45)) hC WG (M_X10_longIn _) rfl rfl rfl rfl  rfl rfl wl_7_151 wl_7_153 wp_101 wl_1_10 wl_7_154 hd_X10_longIn (by rw [e3]; decide) (by decide) dX10_meets_114 (?_ : SdS X 117 [(0, 20), (1, 0), (2, 0), (3, 0), (4, 0)] [0] _)
            refine su_aload_n hC 20 dX10_meets_117 rfl (by decide) (by decide) (?_ : SdS X 118 [(0, 20), (1, 0), (2, 0), (3, 0), (4, 0)] [20, 0] _)
            refine su_iload_n hC dX10_meets_118 rfl (by decide) (?_ : SdS X 119 [(0, 20), (1, 0), (2, 0), (3, 0), (4, 0)] [0, 20, 0] _)
            refine su_inv0 (τ := [0]) (τr := [0]) (ci := 10) (q := (RX10, TX10, 45)) hC WG (M_X10_wideIn _) rfl rfl rfl rfl  rfl rfl wl_7_126 wl_7_128 wp_95 wl_1_10 wl_7_129 hd_X10_wideIn (by rw [e3]; decide) (by decide) dX10_meets_119 (?_ : SdS X 122 [(0, 20), (1, 0), (2, 0), (3, 0), (4, 0)] [0, 0] _)
            refine su_iadd hC dX10_meets_122 (?_ : SdS X 123 [(0, 20), (1, 0), (2, 0), (3, 0), (4, 0)] [0] _)
            refine su_iload hC dX10_meets_123 (by decide) (?_ : SdS X 125 [(0, 20), (1, 0), (2, 0), (3, 0), (4, 0)] [0, 0] _)
            refine su_aload_n hC 20 dX10_meets_125 rfl (by decide) (by decide) (?_ : SdS X 126 [(0, 20), (1, 0), (2, 0), (3, 0), (4, 0)] [20, 0, 0] _)
            refine su_iload_n hC dX10_meets_126 rfl (by decide) (?_ : SdS X 127 [(0, 20), (1, 0), (2, 0), (3, 0), (4, 0)] [0, 20, 0, 0] _)
            refine su_iconst hC dX10_meets_127 ⟨by decide, by decide⟩ (?_ : SdS X 128 [(0, 20), (1, 0), (2, 0), (3, 0), (4, 0)] [0, 0, 20, 0, 0] _)
            refine su_inv0 (τ := [0, 0]) (τr := [0, 0]) (ci := 10) (q := (RX10, TX10, 45)) hC WG (M_X10_of _) rfl rfl rfl rfl  rfl rfl wl_7_131 wl_7_133 wp_96 wl_1_10 wl_7_134 hd_X10_of (by rw [e3]; decide) (by decide) dX10_meets_128 (?_ : SdS X 131 [(0, 20), (1, 0), (2, 0), (3, 0), (4, 0)] [0, 0, 0] _)
            refine su_iadd hC dX10_meets_131 (?_ : SdS X 132 [(0, 20), (1, 0), (2, 0), (3, 0), (4, 0)] [0, 0] _)
            refine su_icmp_le (tgt := 140) hC dX10_meets_132 rfl (?_ : SdS X 140 [(0, 20), (1, 0), (2, 0), (3, 0), (4, 0)] [] _) (?_ : SdS X 135 [(0, 20), (1, 0), (2, 0), (3, 0), (4, 0)] [] _)
            · refine su_iconst hC dX10_meets_140 ⟨by decide, by decide⟩ (?_ : SdS X 141 [(0, 20), (1, 0), (2, 0), (3, 0), (4, 0)] [0] _)
              exact SdS.weak (by decide) (S_141)
            · refine su_bipush hC dX10_meets_135 (by decide) (?_ : SdS X 137 [(0, 20), (1, 0), (2, 0), (3, 0), (4, 0)] [0] _)
              refine su_goto (tgt := 141) hC dX10_meets_137 rfl (?_ : SdS X 141 [(0, 20), (1, 0), (2, 0), (3, 0), (4, 0)] [0] _)
              exact SdS.weak (by decide) (S_141)
          · refine su_iconst hC dX10_meets_110 ⟨by decide, by decide⟩ (?_ : SdS X 111 [(0, 20), (1, 0), (2, 0), (3, 0), (4, 0)] [0] _)
            exact su_ireturn hC hT dX10_meets_111
        · refine su_iconst hC dX10_meets_86 ⟨by decide, by decide⟩ (?_ : SdS X 87 [(0, 20), (1, 0), (2, 0), (3, 0), (4, 0)] [0] _)
          exact su_ireturn hC hT dX10_meets_87
      · refine su_iconst hC dX10_meets_74 ⟨by decide, by decide⟩ (?_ : SdS X 75 [(0, 20), (1, 0), (2, 0), (3, 0), (4, 0)] [0] _)
        exact su_ireturn hC hT dX10_meets_75
    · refine su_iconst hC dX10_meets_58 ⟨by decide, by decide⟩ (?_ : SdS X 59 [(0, 20), (1, 0), (2, 0), (3, 0), (4, 0)] [0] _)
      exact su_ireturn hC hT dX10_meets_59
  · refine su_iconst hC dX10_meets_42 ⟨by decide, by decide⟩ (?_ : SdS X 43 [(0, 20), (1, 0), (2, 0), (3, 0), (4, 0)] [0] _)
    exact su_ireturn hC hT dX10_meets_43
theorem wl_7_143 : Cond.methodLink RX10 381 yX10_meets ∈ WALL := tb7 (List.mem_of_getElem? (i := 143) rfl) rfl
theorem wl_7_145 : Cond.instanceMethod yX10_meets ∈ WALL := tb7 (List.mem_of_getElem? (i := 145) rfl) rfl
theorem wp_99 : Cond.selects RX10 yX10_meets yX10_meets ∈ WALL := tbS (List.mem_of_getElem? (i := 99) rfl)
theorem wl_7_146 : Cond.code yX10_meets cX10_meets 5 (some .int) ∈ WALL := tb7 (List.mem_of_getElem? (i := 146) rfl) rfl
theorem hd_X10_barsNow : yX10_barsNow.cls ≠ "java/lang/invoke/MethodHandle" ∧ yX10_barsNow.cls ≠ "java/lang/invoke/VarHandle" ∧ (parseMethodDescriptor yX10_barsNow.desc).map (fun d => d.parameters.length) = some 1 := by decide +kernel
set_option maxRecDepth 100000 in
set_option maxHeartbeats 4000000 in
theorem M_X10_barsNow (l : Launch) : MtS l yX10_barsNow (Cond.code yX10_barsNow cX10_barsNow 4 (some .int) :: WALL) { frames := 2, cells := 0, slots := 0, locals := 46 } [20, 0] (some 0) T_X10_barsNow := by
  refine MtS.mk (B := E_X10_barsNow) (by decide +kernel) (by decide) (fun _ _ _ hh => hh) ?_
  intro X Q e1 e2 e3 hC hN hT
  subst e1
  have hC : CF X cX10_barsNow RX10 WALL := hC
  have S_35 : ∀ (k5 : xK), SdS X 5 [(0, 20), (1, 0), (2, 0), (3, 0)] [] k5 → SdS X 35 [(0, 20), (1, 0), (2, 0), (3, 0)] [] (B_X10_barsNow_35 Q k5) := by
    intro k5 h5
    unfold B_X10_barsNow_35
    refine su_iinc (Γ' := [(0, 20), (1, 0), (2, 0), (3, 0)]) hC dX10_barsNow_35 (by decide) (by rw [e2]; decide) (by decide) (?_ : SdS X 38 [(0, 20), (1, 0), (2, 0), (3, 0)] [] _)
    refine su_goto (tgt := 5) hC dX10_barsNow_38 rfl (?_ : SdS X 5 [(0, 20), (1, 0), (2, 0), (3, 0)] [] _)
    exact SdS.weak (by decide) h5
  have S_5 : SdS X 5 [(0, 20), (1, 0), (2, 0), (3, 0)] [] (L_X10_barsNow_5 Q) := by
    unfold L_X10_barsNow_5
    refine SdS.loop (fun k5 h5 => ?_)
    refine su_iload_n hC dX10_barsNow_5 rfl (by decide) (?_ : SdS X 6 [(0, 20), (1, 0), (2, 0), (3, 0)] [0] _)
    refine su_iconst hC dX10_barsNow_6 ⟨by decide, by decide⟩ (?_ : SdS X 7 [(0, 20), (1, 0), (2, 0), (3, 0)] [0, 0] _)
    refine su_icmp_ge (tgt := 41) hC dX10_barsNow_7 rfl (?_ : SdS X 41 [(0, 20), (1, 0), (2, 0), (3, 0)] [] _) (?_ : SdS X 10 [(0, 20), (1, 0), (2, 0), (3, 0)] [] _)
    · refine su_iload_n hC dX10_barsNow_41 rfl (by decide) (?_ : SdS X 42 [(0, 20), (1, 0), (2, 0), (3, 0)] [0] _)
      exact su_ireturn hC hT dX10_barsNow_42
    · refine su_aload_n hC 20 dX10_barsNow_10 rfl (by decide) (by decide) (?_ : SdS X 11 [(0, 20), (1, 0), (2, 0), (3, 0)] [20] _)
      refine su_iload_n hC dX10_barsNow_11 rfl (by decide) (?_ : SdS X 12 [(0, 20), (1, 0), (2, 0), (3, 0)] [0, 20] _)
      refine su_inv0 (τ := []) (τr := [0]) (ci := 10) (q := (RX10, TX10, 45)) hC WG (M_X10_hasPose _) rfl rfl rfl rfl  rfl rfl wl_7_122 wl_7_124 wp_94 wl_1_10 wl_7_125 hd_X10_hasPose (by rw [e3]; decide) (by decide) dX10_barsNow_12 (?_ : SdS X 15 [(0, 20), (1, 0), (2, 0), (3, 0)] [0] _)
      refine su_if_eq (tgt := 35) hC dX10_barsNow_15 rfl (?_ : SdS X 35 [(0, 20), (1, 0), (2, 0), (3, 0)] [] _) (?_ : SdS X 18 [(0, 20), (1, 0), (2, 0), (3, 0)] [] _)
      · exact SdS.weak (by decide) (S_35 k5 h5)
      · refine su_aload_n hC 20 dX10_barsNow_18 rfl (by decide) (by decide) (?_ : SdS X 19 [(0, 20), (1, 0), (2, 0), (3, 0)] [20] _)
        refine su_iload_n hC dX10_barsNow_19 rfl (by decide) (?_ : SdS X 20 [(0, 20), (1, 0), (2, 0), (3, 0)] [0, 20] _)
        refine su_iload_n hC dX10_barsNow_20 rfl (by decide) (?_ : SdS X 21 [(0, 20), (1, 0), (2, 0), (3, 0)] [0, 0, 20] _)
        refine su_inv0 (τ := []) (τr := [0, 0]) (ci := 10) (q := (RX10, TX10, 45)) hC WG (M_X10_meets _) rfl rfl rfl rfl  rfl rfl wl_7_143 wl_7_145 wp_99 wl_1_10 wl_7_146 hd_X10_meets (by rw [e3]; decide) (by decide) dX10_barsNow_21 (?_ : SdS X 24 [(0, 20), (1, 0), (2, 0), (3, 0)] [0] _)
        refine su_iload_n hC dX10_barsNow_24 rfl (by decide) (?_ : SdS X 25 [(0, 20), (1, 0), (2, 0), (3, 0)] [0, 0] _)
        refine su_icmp_ge (tgt := 35) hC dX10_barsNow_25 rfl (?_ : SdS X 35 [(0, 20), (1, 0), (2, 0), (3, 0)] [] _) (?_ : SdS X 28 [(0, 20), (1, 0), (2, 0), (3, 0)] [] _)
        · exact SdS.weak (by decide) (S_35 k5 h5)
        · refine su_aload_n hC 20 dX10_barsNow_28 rfl (by decide) (by decide) (?_ : SdS X 29 [(0, 20), (1, 0), (2, 0), (3, 0)] [20] _)
          refine su_iload_n hC dX10_barsNow_29 rfl (by decide) (?_ : SdS X 30 [(0, 20), (1, 0), (2, 0), (3, 0)] [0, 20] _)
          refine su_iload_n hC dX10_barsNow_30 rfl (by decide) (?_ : SdS X 31 [(0, 20), (1, 0), (2, 0), (3, 0)] [0, 0, 20] _)
          refine su_inv0 (τ := []) (τr := [0, 0]) (ci := 10) (q := (RX10, TX10, 45)) hC WG (M_X10_meets _) rfl rfl rfl rfl  rfl rfl wl_7_143 wl_7_145 wp_99 wl_1_10 wl_7_146 hd_X10_meets (by rw [e3]; decide) (by decide) dX10_barsNow_31 (?_ : SdS X 34 [(0, 20), (1, 0), (2, 0), (3, 0)] [0] _)
          refine su_istore_n (Γ' := [(0, 20), (1, 0), (2, 0), (3, 0)]) hC dX10_barsNow_34 rfl (by rw [e2]; decide) (by decide) (?_ : SdS X 35 [(0, 20), (1, 0), (2, 0), (3, 0)] [] _)
          exact SdS.weak (by decide) (S_35 k5 h5)
  refine (?_ : SdS X 0 [(0, 20), (1, 0)] [] (E_X10_barsNow Q))
  unfold E_X10_barsNow
  refine su_bipush hC dX10_barsNow_0 (by decide) (?_ : SdS X 2 [(0, 20), (1, 0)] [0] _)
  refine su_istore_n (Γ' := [(0, 20), (1, 0), (2, 0)]) hC dX10_barsNow_2 rfl (by rw [e2]; decide) (by decide) (?_ : SdS X 3 [(0, 20), (1, 0), (2, 0)] [] _)
  refine su_iconst hC dX10_barsNow_3 ⟨by decide, by decide⟩ (?_ : SdS X 4 [(0, 20), (1, 0), (2, 0)] [0] _)
  refine su_istore_n (Γ' := [(0, 20), (1, 0), (2, 0), (3, 0)]) hC dX10_barsNow_4 rfl (by rw [e2]; decide) (by decide) (?_ : SdS X 5 [(0, 20), (1, 0), (2, 0), (3, 0)] [] _)
  exact SdS.weak (by decide) (S_5)
theorem wl_7_139 : Cond.methodLink RX10 384 yX10_barsNow ∈ WALL := tb7 (List.mem_of_getElem? (i := 139) rfl) rfl
theorem wl_7_141 : Cond.instanceMethod yX10_barsNow ∈ WALL := tb7 (List.mem_of_getElem? (i := 141) rfl) rfl
theorem wp_98 : Cond.selects RX10 yX10_barsNow yX10_barsNow ∈ WALL := tbS (List.mem_of_getElem? (i := 98) rfl)
theorem wl_7_142 : Cond.code yX10_barsNow cX10_barsNow 4 (some .int) ∈ WALL := tb7 (List.mem_of_getElem? (i := 142) rfl) rfl
theorem hd_X10_goesThrough : yX10_goesThrough.cls ≠ "java/lang/invoke/MethodHandle" ∧ yX10_goesThrough.cls ≠ "java/lang/invoke/VarHandle" ∧ (parseMethodDescriptor yX10_goesThrough.desc).map (fun d => d.parameters.length) = some 1 := by decide +kernel
set_option maxRecDepth 100000 in
set_option maxHeartbeats 4000000 in
theorem M_X10_goesThrough (l : Launch) : MtS l yX10_goesThrough (Cond.code yX10_goesThrough cX10_goesThrough 2 (some .boolean) :: WALL) { frames := 3, cells := 0, slots := 0, locals := 69 } [20, 0] (some 0) T_X10_goesThrough := by
  refine MtS.mk (B := E_X10_goesThrough) (by decide +kernel) (by decide) (fun _ _ _ hh => hh) ?_
  intro X Q e1 e2 e3 hC hN hT
  subst e1
  have hC : CF X cX10_goesThrough RX10 WALL := hC
  have S_23 : SdS X 23 [(0, 20), (1, 0)] [0] (B_X10_goesThrough_23 Q) := by
    unfold B_X10_goesThrough_23
    exact su_zreturn hC hT dX10_goesThrough_23
  have S_22 : SdS X 22 [(0, 20), (1, 0)] [] (B_X10_goesThrough_22 Q) := by
    unfold B_X10_goesThrough_22
    refine su_iconst hC dX10_goesThrough_22 ⟨by decide, by decide⟩ (?_ : SdS X 23 [(0, 20), (1, 0)] [0] _)
    exact SdS.weak (by decide) (S_23)
  refine (?_ : SdS X 0 [(0, 20), (1, 0)] [] (E_X10_goesThrough Q))
  unfold E_X10_goesThrough
  refine su_aload_n hC 20 dX10_goesThrough_0 rfl (by decide) (by decide) (?_ : SdS X 1 [(0, 20), (1, 0)] [20] _)
  refine su_iload_n hC dX10_goesThrough_1 rfl (by decide) (?_ : SdS X 2 [(0, 20), (1, 0)] [0, 20] _)
  refine su_bipush hC dX10_goesThrough_2 (by decide) (?_ : SdS X 4 [(0, 20), (1, 0)] [0, 0, 20] _)
  refine su_inv0 (τ := []) (τr := [0, 0]) (ci := 10) (q := (RX10, TX10, 45)) hC WG (M_X10_of _) rfl rfl rfl rfl  rfl rfl wl_7_131 wl_7_133 wp_96 wl_1_10 wl_7_134 hd_X10_of (by rw [e3]; decide) (by decide) dX10_goesThrough_4 (?_ : SdS X 7 [(0, 20), (1, 0)] [0] _)
  refine su_if_ne (tgt := 22) hC dX10_goesThrough_7 rfl (?_ : SdS X 22 [(0, 20), (1, 0)] [] _) (?_ : SdS X 10 [(0, 20), (1, 0)] [] _)
  · exact SdS.weak (by decide) (S_22)
  · refine su_aload_n hC 20 dX10_goesThrough_10 rfl (by decide) (by decide) (?_ : SdS X 11 [(0, 20), (1, 0)] [20] _)
    refine su_iload_n hC dX10_goesThrough_11 rfl (by decide) (?_ : SdS X 12 [(0, 20), (1, 0)] [0, 20] _)
    refine su_inv0 (τ := []) (τr := [0]) (ci := 10) (q := (RX10, TX10, 45)) hC WG (M_X10_barsNow _) rfl rfl rfl rfl  rfl rfl wl_7_139 wl_7_141 wp_98 wl_1_10 wl_7_142 hd_X10_barsNow (by rw [e3]; decide) (by decide) dX10_goesThrough_12 (?_ : SdS X 15 [(0, 20), (1, 0)] [0] _)
    refine su_if_ne (tgt := 22) hC dX10_goesThrough_15 rfl (?_ : SdS X 22 [(0, 20), (1, 0)] [] _) (?_ : SdS X 18 [(0, 20), (1, 0)] [] _)
    · exact SdS.weak (by decide) (S_22)
    · refine su_iconst hC dX10_goesThrough_18 ⟨by decide, by decide⟩ (?_ : SdS X 19 [(0, 20), (1, 0)] [0] _)
      refine su_goto (tgt := 23) hC dX10_goesThrough_19 rfl (?_ : SdS X 23 [(0, 20), (1, 0)] [0] _)
      exact SdS.weak (by decide) (S_23)
theorem hd_X10_hoursAt : yX10_hoursAt.cls ≠ "java/lang/invoke/MethodHandle" ∧ yX10_hoursAt.cls ≠ "java/lang/invoke/VarHandle" ∧ (parseMethodDescriptor yX10_hoursAt.desc).map (fun d => d.parameters.length) = some 1 := by decide +kernel
set_option maxRecDepth 100000 in
set_option maxHeartbeats 4000000 in
theorem M_X10_hoursAt (l : Launch) : MtS l yX10_hoursAt (Cond.code yX10_hoursAt cX10_hoursAt 2 (some .int) :: WALL) { frames := 1, cells := 0, slots := 0, locals := 22 } [20, 0] (some 0) T_X10_hoursAt := by
  refine MtS.mk (B := E_X10_hoursAt) (by decide +kernel) (by decide) (fun _ _ _ hh => hh) ?_
  intro X Q e1 e2 e3 hC hN hT
  subst e1
  have hC : CF X cX10_hoursAt RX10 WALL := hC
  refine (?_ : SdS X 0 [(0, 20), (1, 0)] [] (E_X10_hoursAt Q))
  unfold E_X10_hoursAt
  refine su_aload_n hC 20 dX10_hoursAt_0 rfl (by decide) (by decide) (?_ : SdS X 1 [(0, 20), (1, 0)] [20] _)
  refine su_getF hC (ci := 10) (j := 21) (C := RX10) (T := TX10) (N := 45) rfl rfl (by decide) in_X10 wl_5_185 rfl dX10_hoursAt_1 (?_ : SdS X 4 [(0, 20), (1, 0)] [0] _)
  refine su_aload_n hC 20 dX10_hoursAt_4 rfl (by decide) (by decide) (?_ : SdS X 5 [(0, 20), (1, 0)] [20, 0] _)
  refine su_iload_n hC dX10_hoursAt_5 rfl (by decide) (?_ : SdS X 6 [(0, 20), (1, 0)] [0, 20, 0] _)
  refine su_iconst hC dX10_hoursAt_6 ⟨by decide, by decide⟩ (?_ : SdS X 7 [(0, 20), (1, 0)] [0, 0, 20, 0] _)
  refine su_inv0 (τ := [0]) (τr := [0, 0]) (ci := 10) (q := (RX10, TX10, 45)) hC WG (M_X10_of _) rfl rfl rfl rfl  rfl rfl wl_7_131 wl_7_133 wp_96 wl_1_10 wl_7_134 hd_X10_of (by rw [e3]; decide) (by decide) dX10_hoursAt_7 (?_ : SdS X 10 [(0, 20), (1, 0)] [0, 0] _)
  refine su_invs (τ := []) (τs := [0, 0]) hC false "" WG (M_X10_upwards _) rfl rfl rfl rfl wl_7_107 wl_7_108 wl_1_10 wl_7_109 hd_X10_upwards (by rw [e3]; decide) (by decide) dX10_hoursAt_10 (?_ : SdS X 13 [(0, 20), (1, 0)] [0] _)
  exact su_ireturn hC hT dX10_hoursAt_13
theorem wl_7_159 : Cond.methodLink RX10 412 yX10_hoursAt ∈ WALL := tb7 (List.mem_of_getElem? (i := 159) rfl) rfl
theorem wl_7_161 : Cond.instanceMethod yX10_hoursAt ∈ WALL := tb7 (List.mem_of_getElem? (i := 161) rfl) rfl
theorem wp_103 : Cond.selects RX10 yX10_hoursAt yX10_hoursAt ∈ WALL := tbS (List.mem_of_getElem? (i := 103) rfl)
theorem wl_7_162 : Cond.code yX10_hoursAt cX10_hoursAt 2 (some .int) ∈ WALL := tb7 (List.mem_of_getElem? (i := 162) rfl) rfl
theorem wl_7_163 : Cond.constantLong RX10 415 (Int64.ofInt 100000) ∈ WALL := tb7 (List.mem_of_getElem? (i := 163) rfl) rfl
theorem hd_X10_paysAt : yX10_paysAt.cls ≠ "java/lang/invoke/MethodHandle" ∧ yX10_paysAt.cls ≠ "java/lang/invoke/VarHandle" ∧ (parseMethodDescriptor yX10_paysAt.desc).map (fun d => d.parameters.length) = some 1 := by decide +kernel
set_option maxRecDepth 100000 in
set_option maxHeartbeats 4000000 in
theorem M_X10_paysAt (l : Launch) : MtS l yX10_paysAt (Cond.code yX10_paysAt cX10_paysAt 2 (some .long) :: WALL) { frames := 2, cells := 0, slots := 0, locals := 43 } [20, 0] (some 1) T_X10_paysAt := by
  refine MtS.mk (B := E_X10_paysAt) (by decide +kernel) (by decide) (fun _ _ _ hh => hh) ?_
  intro X Q e1 e2 e3 hC hN hT
  subst e1
  have hC : CF X cX10_paysAt RX10 WALL := hC
  refine (?_ : SdS X 0 [(0, 20), (1, 0)] [] (E_X10_paysAt Q))
  unfold E_X10_paysAt
  refine su_aload_n hC 20 dX10_paysAt_0 rfl (by decide) (by decide) (?_ : SdS X 1 [(0, 20), (1, 0)] [20] _)
  refine su_iload_n hC dX10_paysAt_1 rfl (by decide) (?_ : SdS X 2 [(0, 20), (1, 0)] [0, 20] _)
  refine su_iconst hC dX10_paysAt_2 ⟨by decide, by decide⟩ (?_ : SdS X 3 [(0, 20), (1, 0)] [0, 0, 20] _)
  refine su_inv0 (τ := []) (τr := [0, 0]) (ci := 10) (q := (RX10, TX10, 45)) hC WG (M_X10_of _) rfl rfl rfl rfl  rfl rfl wl_7_131 wl_7_133 wp_96 wl_1_10 wl_7_134 hd_X10_of (by rw [e3]; decide) (by decide) dX10_paysAt_3 (?_ : SdS X 6 [(0, 20), (1, 0)] [0] _)
  refine su_i2l hC dX10_paysAt_6 (?_ : SdS X 7 [(0, 20), (1, 0)] [1] _)
  refine su_aload_n hC 20 dX10_paysAt_7 rfl (by decide) (by decide) (?_ : SdS X 8 [(0, 20), (1, 0)] [20, 1] _)
  refine su_iload_n hC dX10_paysAt_8 rfl (by decide) (?_ : SdS X 9 [(0, 20), (1, 0)] [0, 20, 1] _)
  refine su_inv0 (τ := [1]) (τr := [0]) (ci := 10) (q := (RX10, TX10, 45)) hC WG (M_X10_hoursAt _) rfl rfl rfl rfl  rfl rfl wl_7_159 wl_7_161 wp_103 wl_1_10 wl_7_162 hd_X10_hoursAt (by rw [e3]; decide) (by decide) dX10_paysAt_9 (?_ : SdS X 12 [(0, 20), (1, 0)] [0, 1] _)
  refine su_i2l hC dX10_paysAt_12 (?_ : SdS X 13 [(0, 20), (1, 0)] [1, 1] _)
  refine su_aload_n hC 20 dX10_paysAt_13 rfl (by decide) (by decide) (?_ : SdS X 14 [(0, 20), (1, 0)] [20, 1, 1] _)
  refine su_iload_n hC dX10_paysAt_14 rfl (by decide) (?_ : SdS X 15 [(0, 20), (1, 0)] [0, 20, 1, 1] _)
  refine su_iconst hC dX10_paysAt_15 ⟨by decide, by decide⟩ (?_ : SdS X 16 [(0, 20), (1, 0)] [0, 0, 20, 1, 1] _)
  refine su_inv0 (τ := [1, 1]) (τr := [0, 0]) (ci := 10) (q := (RX10, TX10, 45)) hC WG (M_X10_of _) rfl rfl rfl rfl  rfl rfl wl_7_131 wl_7_133 wp_96 wl_1_10 wl_7_134 hd_X10_of (by rw [e3]; decide) (by decide) dX10_paysAt_16 (?_ : SdS X 19 [(0, 20), (1, 0)] [0, 1, 1] _)
  refine su_i2l hC dX10_paysAt_19 (?_ : SdS X 20 [(0, 20), (1, 0)] [1, 1, 1] _)
  refine su_lmul hC dX10_paysAt_20 (?_ : SdS X 21 [(0, 20), (1, 0)] [1, 1] _)
  refine su_ladd hC dX10_paysAt_21 (?_ : SdS X 22 [(0, 20), (1, 0)] [1] _)
  refine su_ldc2 hC wl_7_163 dX10_paysAt_22 ⟨by decide, by decide⟩ (?_ : SdS X 25 [(0, 20), (1, 0)] [1, 1] _)
  refine su_lmul hC dX10_paysAt_25 (?_ : SdS X 26 [(0, 20), (1, 0)] [1] _)
  refine su_aload_n hC 20 dX10_paysAt_26 rfl (by decide) (by decide) (?_ : SdS X 27 [(0, 20), (1, 0)] [20, 1] _)
  refine su_iload_n hC dX10_paysAt_27 rfl (by decide) (?_ : SdS X 28 [(0, 20), (1, 0)] [0, 20, 1] _)
  refine su_inv0 (τ := [1]) (τr := [0]) (ci := 10) (q := (RX10, TX10, 45)) hC WG (M_X10_hoursAt _) rfl rfl rfl rfl  rfl rfl wl_7_159 wl_7_161 wp_103 wl_1_10 wl_7_162 hd_X10_hoursAt (by rw [e3]; decide) (by decide) dX10_paysAt_28 (?_ : SdS X 31 [(0, 20), (1, 0)] [0, 1] _)
  refine su_i2l hC dX10_paysAt_31 (?_ : SdS X 32 [(0, 20), (1, 0)] [1, 1] _)
  refine su_ladd hC dX10_paysAt_32 (?_ : SdS X 33 [(0, 20), (1, 0)] [1] _)
  exact su_lreturn hC hT dX10_paysAt_33
theorem hd_X10_round : yX10_round.cls ≠ "java/lang/invoke/MethodHandle" ∧ yX10_round.cls ≠ "java/lang/invoke/VarHandle" ∧ (parseMethodDescriptor yX10_round.desc).map (fun d => d.parameters.length) = some 2 := by decide +kernel
set_option maxRecDepth 100000 in
set_option maxHeartbeats 4000000 in
theorem M_X10_round (l : Launch) : MtS l yX10_round (Cond.code yX10_round cX10_round 3 (some .int) :: WALL) { frames := 0, cells := 0, slots := 0, locals := 0 } [0, 0] (some 0) T_X10_round := by
  refine MtS.mk (B := E_X10_round) (by decide +kernel) (by decide) (fun _ _ _ hh => hh) ?_
  intro X Q e1 e2 e3 hC hN hT
  subst e1
  have hC : CF X cX10_round RX10 WALL := hC
  have S_31 : SdS X 31 [(0, 0), (1, 0), (2, 0)] [0] (B_X10_round_31 Q) := by
    unfold B_X10_round_31
    exact su_ireturn hC hT dX10_round_31
  have S_14 : SdS X 14 [(0, 0), (1, 0)] [0] (B_X10_round_14 Q) := by
    unfold B_X10_round_14
    refine su_istore_n (Γ' := [(0, 0), (1, 0), (2, 0)]) hC dX10_round_14 rfl (by rw [e2]; decide) (by decide) (?_ : SdS X 15 [(0, 0), (1, 0), (2, 0)] [] _)
    refine su_iload_n hC dX10_round_15 rfl (by decide) (?_ : SdS X 16 [(0, 0), (1, 0), (2, 0)] [0] _)
    refine su_bipush hC dX10_round_16 (by decide) (?_ : SdS X 18 [(0, 0), (1, 0), (2, 0)] [0, 0] _)
    refine su_iload_n hC dX10_round_18 rfl (by decide) (?_ : SdS X 19 [(0, 0), (1, 0), (2, 0)] [0, 0, 0] _)
    refine su_isub hC dX10_round_19 (?_ : SdS X 20 [(0, 0), (1, 0), (2, 0)] [0, 0] _)
    refine su_icmp_ge (tgt := 27) hC dX10_round_20 rfl (?_ : SdS X 27 [(0, 0), (1, 0), (2, 0)] [] _) (?_ : SdS X 23 [(0, 0), (1, 0), (2, 0)] [] _)
    · refine su_bipush hC dX10_round_27 (by decide) (?_ : SdS X 29 [(0, 0), (1, 0), (2, 0)] [0] _)
      refine su_iload_n hC dX10_round_29 rfl (by decide) (?_ : SdS X 30 [(0, 0), (1, 0), (2, 0)] [0, 0] _)
      refine su_isub hC dX10_round_30 (?_ : SdS X 31 [(0, 0), (1, 0), (2, 0)] [0] _)
      exact SdS.weak (by decide) (S_31)
    · refine su_iload_n hC dX10_round_23 rfl (by decide) (?_ : SdS X 24 [(0, 0), (1, 0), (2, 0)] [0] _)
      refine su_goto (tgt := 31) hC dX10_round_24 rfl (?_ : SdS X 31 [(0, 0), (1, 0), (2, 0)] [0] _)
      exact SdS.weak (by decide) (S_31)
  refine (?_ : SdS X 0 [(0, 0), (1, 0)] [] (E_X10_round Q))
  unfold E_X10_round
  refine su_iload_n hC dX10_round_0 rfl (by decide) (?_ : SdS X 1 [(0, 0), (1, 0)] [0] _)
  refine su_iload_n hC dX10_round_1 rfl (by decide) (?_ : SdS X 2 [(0, 0), (1, 0)] [0, 0] _)
  refine su_icmp_ge (tgt := 11) hC dX10_round_2 rfl (?_ : SdS X 11 [(0, 0), (1, 0)] [] _) (?_ : SdS X 5 [(0, 0), (1, 0)] [] _)
  · refine su_iload_n hC dX10_round_11 rfl (by decide) (?_ : SdS X 12 [(0, 0), (1, 0)] [0] _)
    refine su_iload_n hC dX10_round_12 rfl (by decide) (?_ : SdS X 13 [(0, 0), (1, 0)] [0, 0] _)
    refine su_isub hC dX10_round_13 (?_ : SdS X 14 [(0, 0), (1, 0)] [0] _)
    exact SdS.weak (by decide) (S_14)
  · refine su_iload_n hC dX10_round_5 rfl (by decide) (?_ : SdS X 6 [(0, 0), (1, 0)] [0] _)
    refine su_iload_n hC dX10_round_6 rfl (by decide) (?_ : SdS X 7 [(0, 0), (1, 0)] [0, 0] _)
    refine su_isub hC dX10_round_7 (?_ : SdS X 8 [(0, 0), (1, 0)] [0] _)
    refine su_goto (tgt := 14) hC dX10_round_8 rfl (?_ : SdS X 14 [(0, 0), (1, 0)] [0] _)
    exact SdS.weak (by decide) (S_14)
theorem wl_5_190 : Cond.fieldLink RX10 417 "NarrowRingsModel" "routed" "I" ∈ WALL := tb5 (List.mem_of_getElem? (i := 190) rfl) rfl
theorem wl_7_130 : Cond.constantLong RX10 420 (Int64.ofInt 1125899906842624) ∈ WALL := tb7 (List.mem_of_getElem? (i := 130) rfl) rfl
theorem wl_5_181 : Cond.fieldLink RX10 339 "NarrowRingsModel" "gates" "I" ∈ WALL := tb5 (List.mem_of_getElem? (i := 181) rfl) rfl
theorem wl_5_188 : Cond.fieldLink RX10 21 "NarrowRingsModel" "least" "[J" ∈ WALL := tb5 (List.mem_of_getElem? (i := 188) rfl) rfl
theorem wl_7_168 : Cond.methodLink RX10 429 yX10_round ∈ WALL := tb7 (List.mem_of_getElem? (i := 168) rfl) rfl
theorem wl_7_169 : Cond.static yX10_round ∈ WALL := tb7 (List.mem_of_getElem? (i := 169) rfl) rfl
theorem wl_7_170 : Cond.code yX10_round cX10_round 3 (some .int) ∈ WALL := tb7 (List.mem_of_getElem? (i := 170) rfl) rfl
theorem hd_X10_from : yX10_from.cls ≠ "java/lang/invoke/MethodHandle" ∧ yX10_from.cls ≠ "java/lang/invoke/VarHandle" ∧ (parseMethodDescriptor yX10_from.desc).map (fun d => d.parameters.length) = some 3 := by decide +kernel
set_option maxRecDepth 100000 in
set_option maxHeartbeats 4000000 in
theorem M_X10_from (l : Launch) : MtS l yX10_from (Cond.code yX10_from cX10_from 9 (some .long) :: WALL) { frames := 1, cells := 0, slots := 0, locals := 22 } [20, 0, 0, 0] (some 1) T_X10_from := by
  refine MtS.mk (B := E_X10_from) (by decide +kernel) (by decide) (fun _ _ _ hh => hh) ?_
  intro X Q e1 e2 e3 hC hN hT
  subst e1
  have hC : CF X cX10_from RX10 WALL := hC
  have S_99 : ∀ (k23 : xK), SdS X 23 [(0, 20), (1, 0), (2, 0), (3, 0), (4, 1), (6, 0)] [] k23 → SdS X 99 [(0, 20), (1, 0), (2, 0), (3, 0), (4, 1), (6, 0), (7, 1)] [1] (B_X10_from_99 Q k23) := by
    intro k23 h23
    unfold B_X10_from_99
    refine su_lstore (Γ' := [(0, 20), (1, 0), (2, 0), (3, 0), (4, 1), (6, 0), (7, 1)]) hC dX10_from_99 (by rw [e2]; decide) (by decide) (?_ : SdS X 101 [(0, 20), (1, 0), (2, 0), (3, 0), (4, 1), (6, 0), (7, 1)] [] _)
    refine su_iinc (Γ' := [(0, 20), (1, 0), (2, 0), (3, 0), (4, 1), (6, 0), (7, 1)]) hC dX10_from_101 (by decide) (by rw [e2]; decide) (by decide) (?_ : SdS X 104 [(0, 20), (1, 0), (2, 0), (3, 0), (4, 1), (6, 0), (7, 1)] [] _)
    refine su_goto (tgt := 23) hC dX10_from_104 rfl (?_ : SdS X 23 [(0, 20), (1, 0), (2, 0), (3, 0), (4, 1), (6, 0), (7, 1)] [] _)
    exact SdS.weak (by decide) h23
  have S_82 : ∀ (k23 : xK), SdS X 23 [(0, 20), (1, 0), (2, 0), (3, 0), (4, 1), (6, 0)] [] k23 → SdS X 82 [(0, 20), (1, 0), (2, 0), (3, 0), (4, 1), (6, 0)] [1] (B_X10_from_82 Q k23) := by
    intro k23 h23
    unfold B_X10_from_82
    refine su_lstore (Γ' := [(0, 20), (1, 0), (2, 0), (3, 0), (4, 1), (6, 0), (7, 1)]) hC dX10_from_82 (by rw [e2]; decide) (by decide) (?_ : SdS X 84 [(0, 20), (1, 0), (2, 0), (3, 0), (4, 1), (6, 0), (7, 1)] [] _)
    refine su_lload hC dX10_from_84 (by decide) (?_ : SdS X 86 [(0, 20), (1, 0), (2, 0), (3, 0), (4, 1), (6, 0), (7, 1)] [1] _)
    refine su_lload hC dX10_from_86 (by decide) (?_ : SdS X 88 [(0, 20), (1, 0), (2, 0), (3, 0), (4, 1), (6, 0), (7, 1)] [1, 1] _)
    refine su_lcmp hC dX10_from_88 (?_ : SdS X 89 [(0, 20), (1, 0), (2, 0), (3, 0), (4, 1), (6, 0), (7, 1)] [0] _)
    refine su_if_ge (tgt := 97) hC dX10_from_89 rfl (?_ : SdS X 97 [(0, 20), (1, 0), (2, 0), (3, 0), (4, 1), (6, 0), (7, 1)] [] _) (?_ : SdS X 92 [(0, 20), (1, 0), (2, 0), (3, 0), (4, 1), (6, 0), (7, 1)] [] _)
    · refine su_lload hC dX10_from_97 (by decide) (?_ : SdS X 99 [(0, 20), (1, 0), (2, 0), (3, 0), (4, 1), (6, 0), (7, 1)] [1] _)
      exact SdS.weak (by decide) (S_99 k23 h23)
    · refine su_lload hC dX10_from_92 (by decide) (?_ : SdS X 94 [(0, 20), (1, 0), (2, 0), (3, 0), (4, 1), (6, 0), (7, 1)] [1] _)
      refine su_goto (tgt := 99) hC dX10_from_94 rfl (?_ : SdS X 99 [(0, 20), (1, 0), (2, 0), (3, 0), (4, 1), (6, 0), (7, 1)] [1] _)
      exact SdS.weak (by decide) (S_99 k23 h23)
  have S_23 : SdS X 23 [(0, 20), (1, 0), (2, 0), (3, 0), (4, 1), (6, 0)] [] (L_X10_from_23 Q) := by
    unfold L_X10_from_23
    refine SdS.loop (fun k23 h23 => ?_)
    refine su_iload hC dX10_from_23 (by decide) (?_ : SdS X 25 [(0, 20), (1, 0), (2, 0), (3, 0), (4, 1), (6, 0)] [0] _)
    refine su_aload_n hC 20 dX10_from_25 rfl (by decide) (by decide) (?_ : SdS X 26 [(0, 20), (1, 0), (2, 0), (3, 0), (4, 1), (6, 0)] [20, 0] _)
    refine su_getF hC (ci := 10) (j := 17) (C := RX10) (T := TX10) (N := 45) rfl rfl (by decide) in_X10 wl_5_181 rfl dX10_from_26 (?_ : SdS X 29 [(0, 20), (1, 0), (2, 0), (3, 0), (4, 1), (6, 0)] [0, 0] _)
    refine su_icmp_ge (tgt := 107) hC dX10_from_29 rfl (?_ : SdS X 107 [(0, 20), (1, 0), (2, 0), (3, 0), (4, 1), (6, 0)] [] _) (?_ : SdS X 32 [(0, 20), (1, 0), (2, 0), (3, 0), (4, 1), (6, 0)] [] _)
    · refine su_lload hC dX10_from_107 (by decide) (?_ : SdS X 109 [(0, 20), (1, 0), (2, 0), (3, 0), (4, 1), (6, 0)] [1] _)
      exact su_lreturn hC hT dX10_from_109
    · refine su_aload_n hC 20 dX10_from_32 rfl (by decide) (by decide) (?_ : SdS X 33 [(0, 20), (1, 0), (2, 0), (3, 0), (4, 1), (6, 0)] [20] _)
      refine su_getR hC (ci := 10) (j := 24) (C := RX10) (T := TX10) (N := 45) rfl rfl (by decide) in_X10 wl_5_188 rfl dX10_from_33 (?_ : SdS X 36 [(0, 20), (1, 0), (2, 0), (3, 0), (4, 1), (6, 0)] [101] _)
      refine su_bipush hC dX10_from_36 (by decide) (?_ : SdS X 38 [(0, 20), (1, 0), (2, 0), (3, 0), (4, 1), (6, 0)] [0, 101] _)
      refine su_iload_n hC dX10_from_38 rfl (by decide) (?_ : SdS X 39 [(0, 20), (1, 0), (2, 0), (3, 0), (4, 1), (6, 0)] [0, 0, 101] _)
      refine su_imul hC dX10_from_39 (?_ : SdS X 40 [(0, 20), (1, 0), (2, 0), (3, 0), (4, 1), (6, 0)] [0, 101] _)
      refine su_iload hC dX10_from_40 (by decide) (?_ : SdS X 42 [(0, 20), (1, 0), (2, 0), (3, 0), (4, 1), (6, 0)] [0, 0, 101] _)
      refine su_iadd hC dX10_from_42 (?_ : SdS X 43 [(0, 20), (1, 0), (2, 0), (3, 0), (4, 1), (6, 0)] [0, 101] _)
      refine su_laload hC dX10_from_43 (?_ : SdS X 44 [(0, 20), (1, 0), (2, 0), (3, 0), (4, 1), (6, 0)] [1] _)
      refine su_ldc2 hC wl_7_130 dX10_from_44 ⟨by decide, by decide⟩ (?_ : SdS X 47 [(0, 20), (1, 0), (2, 0), (3, 0), (4, 1), (6, 0)] [1, 1] _)
      refine su_lcmp hC dX10_from_47 (?_ : SdS X 48 [(0, 20), (1, 0), (2, 0), (3, 0), (4, 1), (6, 0)] [0] _)
      refine su_if_lt (tgt := 57) hC dX10_from_48 rfl (?_ : SdS X 57 [(0, 20), (1, 0), (2, 0), (3, 0), (4, 1), (6, 0)] [] _) (?_ : SdS X 51 [(0, 20), (1, 0), (2, 0), (3, 0), (4, 1), (6, 0)] [] _)
      · refine su_aload_n hC 20 dX10_from_57 rfl (by decide) (by decide) (?_ : SdS X 58 [(0, 20), (1, 0), (2, 0), (3, 0), (4, 1), (6, 0)] [20] _)
        refine su_getR hC (ci := 10) (j := 24) (C := RX10) (T := TX10) (N := 45) rfl rfl (by decide) in_X10 wl_5_188 rfl dX10_from_58 (?_ : SdS X 61 [(0, 20), (1, 0), (2, 0), (3, 0), (4, 1), (6, 0)] [101] _)
        refine su_bipush hC dX10_from_61 (by decide) (?_ : SdS X 63 [(0, 20), (1, 0), (2, 0), (3, 0), (4, 1), (6, 0)] [0, 101] _)
        refine su_iload_n hC dX10_from_63 rfl (by decide) (?_ : SdS X 64 [(0, 20), (1, 0), (2, 0), (3, 0), (4, 1), (6, 0)] [0, 0, 101] _)
        refine su_imul hC dX10_from_64 (?_ : SdS X 65 [(0, 20), (1, 0), (2, 0), (3, 0), (4, 1), (6, 0)] [0, 101] _)
        refine su_iload hC dX10_from_65 (by decide) (?_ : SdS X 67 [(0, 20), (1, 0), (2, 0), (3, 0), (4, 1), (6, 0)] [0, 0, 101] _)
        refine su_iadd hC dX10_from_67 (?_ : SdS X 68 [(0, 20), (1, 0), (2, 0), (3, 0), (4, 1), (6, 0)] [0, 101] _)
        refine su_laload hC dX10_from_68 (?_ : SdS X 69 [(0, 20), (1, 0), (2, 0), (3, 0), (4, 1), (6, 0)] [1] _)
        refine su_iload_n hC dX10_from_69 rfl (by decide) (?_ : SdS X 70 [(0, 20), (1, 0), (2, 0), (3, 0), (4, 1), (6, 0)] [0, 1] _)
        refine su_aload_n hC 20 dX10_from_70 rfl (by decide) (by decide) (?_ : SdS X 71 [(0, 20), (1, 0), (2, 0), (3, 0), (4, 1), (6, 0)] [20, 0, 1] _)
        refine su_iload hC dX10_from_71 (by decide) (?_ : SdS X 73 [(0, 20), (1, 0), (2, 0), (3, 0), (4, 1), (6, 0)] [0, 20, 0, 1] _)
        refine su_iconst hC dX10_from_73 ⟨by decide, by decide⟩ (?_ : SdS X 74 [(0, 20), (1, 0), (2, 0), (3, 0), (4, 1), (6, 0)] [0, 0, 20, 0, 1] _)
        refine su_inv0 (τ := [0, 1]) (τr := [0, 0]) (ci := 10) (q := (RX10, TX10, 45)) hC WG (M_X10_of _) rfl rfl rfl rfl  rfl rfl wl_7_131 wl_7_133 wp_96 wl_1_10 wl_7_134 hd_X10_of (by rw [e3]; decide) (by decide) dX10_from_74 (?_ : SdS X 77 [(0, 20), (1, 0), (2, 0), (3, 0), (4, 1), (6, 0)] [0, 0, 1] _)
        refine su_invs (τ := [1]) (τs := [0, 0]) hC false "" WG (M_X10_round _) rfl rfl rfl rfl wl_7_168 wl_7_169 wl_1_10 wl_7_170 hd_X10_round (by rw [e3]; decide) (by decide) dX10_from_77 (?_ : SdS X 80 [(0, 20), (1, 0), (2, 0), (3, 0), (4, 1), (6, 0)] [0, 1] _)
        refine su_i2l hC dX10_from_80 (?_ : SdS X 81 [(0, 20), (1, 0), (2, 0), (3, 0), (4, 1), (6, 0)] [1, 1] _)
        refine su_ladd hC dX10_from_81 (?_ : SdS X 82 [(0, 20), (1, 0), (2, 0), (3, 0), (4, 1), (6, 0)] [1] _)
        exact SdS.weak (by decide) (S_82 k23 h23)
      · refine su_ldc2 hC wl_7_130 dX10_from_51 ⟨by decide, by decide⟩ (?_ : SdS X 54 [(0, 20), (1, 0), (2, 0), (3, 0), (4, 1), (6, 0)] [1] _)
        refine su_goto (tgt := 82) hC dX10_from_54 rfl (?_ : SdS X 82 [(0, 20), (1, 0), (2, 0), (3, 0), (4, 1), (6, 0)] [1] _)
        exact SdS.weak (by decide) (S_82 k23 h23)
  refine (?_ : SdS X 0 [(0, 20), (1, 0), (2, 0), (3, 0)] [] (E_X10_from Q))
  unfold E_X10_from
  refine su_iload_n hC dX10_from_0 rfl (by decide) (?_ : SdS X 1 [(0, 20), (1, 0), (2, 0), (3, 0)] [0] _)
  refine su_aload_n hC 20 dX10_from_1 rfl (by decide) (by decide) (?_ : SdS X 2 [(0, 20), (1, 0), (2, 0), (3, 0)] [20, 0] _)
  refine su_getF hC (ci := 10) (j := 26) (C := RX10) (T := TX10) (N := 45) rfl rfl (by decide) in_X10 wl_5_190 rfl dX10_from_2 (?_ : SdS X 5 [(0, 20), (1, 0), (2, 0), (3, 0)] [0, 0] _)
  refine su_icmp_ne (tgt := 15) hC dX10_from_5 rfl (?_ : SdS X 15 [(0, 20), (1, 0), (2, 0), (3, 0)] [] _) (?_ : SdS X 8 [(0, 20), (1, 0), (2, 0), (3, 0)] [] _)
  · refine su_ldc2 hC wl_7_130 dX10_from_15 ⟨by decide, by decide⟩ (?_ : SdS X 18 [(0, 20), (1, 0), (2, 0), (3, 0)] [1] _)
    refine su_lstore (Γ' := [(0, 20), (1, 0), (2, 0), (3, 0), (4, 1)]) hC dX10_from_18 (by rw [e2]; decide) (by decide) (?_ : SdS X 20 [(0, 20), (1, 0), (2, 0), (3, 0), (4, 1)] [] _)
    refine su_iconst hC dX10_from_20 ⟨by decide, by decide⟩ (?_ : SdS X 21 [(0, 20), (1, 0), (2, 0), (3, 0), (4, 1)] [0] _)
    refine su_istore (Γ' := [(0, 20), (1, 0), (2, 0), (3, 0), (4, 1), (6, 0)]) hC dX10_from_21 (by rw [e2]; decide) (by decide) (?_ : SdS X 23 [(0, 20), (1, 0), (2, 0), (3, 0), (4, 1), (6, 0)] [] _)
    exact SdS.weak (by decide) (S_23)
  · refine su_iload_n hC dX10_from_8 rfl (by decide) (?_ : SdS X 9 [(0, 20), (1, 0), (2, 0), (3, 0)] [0] _)
    refine su_iload_n hC dX10_from_9 rfl (by decide) (?_ : SdS X 10 [(0, 20), (1, 0), (2, 0), (3, 0)] [0, 0] _)
    refine su_invs (τ := []) (τs := [0, 0]) hC false "" WG (M_X10_round _) rfl rfl rfl rfl wl_7_168 wl_7_169 wl_1_10 wl_7_170 hd_X10_round (by rw [e3]; decide) (by decide) dX10_from_10 (?_ : SdS X 13 [(0, 20), (1, 0), (2, 0), (3, 0)] [0] _)
    refine su_i2l hC dX10_from_13 (?_ : SdS X 14 [(0, 20), (1, 0), (2, 0), (3, 0)] [1] _)
    exact su_lreturn hC hT dX10_from_14
theorem wl_7_164 : Cond.methodLink RX10 426 yX10_from ∈ WALL := tb7 (List.mem_of_getElem? (i := 164) rfl) rfl
theorem wl_7_166 : Cond.instanceMethod yX10_from ∈ WALL := tb7 (List.mem_of_getElem? (i := 166) rfl) rfl
theorem wp_104 : Cond.selects RX10 yX10_from yX10_from ∈ WALL := tbS (List.mem_of_getElem? (i := 104) rfl)
theorem wl_7_167 : Cond.code yX10_from cX10_from 9 (some .long) ∈ WALL := tb7 (List.mem_of_getElem? (i := 167) rfl) rfl
theorem wl_5_189 : Cond.fieldLink RX10 25 "NarrowRingsModel" "route" "[I" ∈ WALL := tb5 (List.mem_of_getElem? (i := 189) rfl) rfl
theorem wl_7_135 : Cond.methodLink RX10 406 yX10_goesThrough ∈ WALL := tb7 (List.mem_of_getElem? (i := 135) rfl) rfl
theorem wl_7_137 : Cond.instanceMethod yX10_goesThrough ∈ WALL := tb7 (List.mem_of_getElem? (i := 137) rfl) rfl
theorem wp_97 : Cond.selects RX10 yX10_goesThrough yX10_goesThrough ∈ WALL := tbS (List.mem_of_getElem? (i := 97) rfl)
theorem wl_7_138 : Cond.code yX10_goesThrough cX10_goesThrough 2 (some .boolean) ∈ WALL := tb7 (List.mem_of_getElem? (i := 138) rfl) rfl
theorem wl_7_155 : Cond.methodLink RX10 422 yX10_paysAt ∈ WALL := tb7 (List.mem_of_getElem? (i := 155) rfl) rfl
theorem wl_7_157 : Cond.instanceMethod yX10_paysAt ∈ WALL := tb7 (List.mem_of_getElem? (i := 157) rfl) rfl
theorem wp_102 : Cond.selects RX10 yX10_paysAt yX10_paysAt ∈ WALL := tbS (List.mem_of_getElem? (i := 102) rfl)
theorem wl_7_158 : Cond.code yX10_paysAt cX10_paysAt 2 (some .long) ∈ WALL := tb7 (List.mem_of_getElem? (i := 158) rfl) rfl
theorem wl_7_114 : Cond.methodLink RX10 403 yX10_isBorne ∈ WALL := tb7 (List.mem_of_getElem? (i := 114) rfl) rfl
theorem wl_7_116 : Cond.instanceMethod yX10_isBorne ∈ WALL := tb7 (List.mem_of_getElem? (i := 116) rfl) rfl
theorem wp_92 : Cond.selects RX10 yX10_isBorne yX10_isBorne ∈ WALL := tbS (List.mem_of_getElem? (i := 92) rfl)
theorem wl_7_117 : Cond.code yX10_isBorne cX10_isBorne 4 (some .boolean) ∈ WALL := tb7 (List.mem_of_getElem? (i := 117) rfl) rfl
theorem hd_X10_goes : yX10_goes.cls ≠ "java/lang/invoke/MethodHandle" ∧ yX10_goes.cls ≠ "java/lang/invoke/VarHandle" ∧ (parseMethodDescriptor yX10_goes.desc).map (fun d => d.parameters.length) = some 4 := by decide +kernel
set_option maxRecDepth 100000 in
set_option maxHeartbeats 4000000 in
theorem M_X10_goes (l : Launch) : MtS l yX10_goes (Cond.code yX10_goes cX10_goes 11 (some .long) :: WALL) { frames := 4, cells := 0, slots := 0, locals := 90 } [20, 0, 0, 0, 0] (some 1) T_X10_goes := by
  refine MtS.mk (B := E_X10_goes) (by decide +kernel) (by decide) (fun _ _ _ hh => hh) ?_
  intro X Q e1 e2 e3 hC hN hT
  subst e1
  have hC : CF X cX10_goes RX10 WALL := hC
  have S_228 : ∀ (k216 : xK), SdS X 216 [(0, 20), (1, 0), (2, 0), (3, 0), (4, 0), (5, 0), (6, 1), (8, 0), (9, 0)] [] k216 → SdS X 228 [(0, 20), (1, 0), (2, 0), (3, 0), (4, 0), (5, 0), (6, 1), (8, 0), (9, 0), (10, 0)] [] (L_X10_goes_228 Q k216) := by
    intro k216 h216
    unfold L_X10_goes_228
    refine SdS.loop (fun k228 h228 => ?_)
    refine su_iload hC dX10_goes_228 (by decide) (?_ : SdS X 230 [(0, 20), (1, 0), (2, 0), (3, 0), (4, 0), (5, 0), (6, 1), (8, 0), (9, 0), (10, 0)] [0] _)
    refine su_aload_n hC 20 dX10_goes_230 rfl (by decide) (by decide) (?_ : SdS X 231 [(0, 20), (1, 0), (2, 0), (3, 0), (4, 0), (5, 0), (6, 1), (8, 0), (9, 0), (10, 0)] [20, 0] _)
    refine su_iload hC dX10_goes_231 (by decide) (?_ : SdS X 233 [(0, 20), (1, 0), (2, 0), (3, 0), (4, 0), (5, 0), (6, 1), (8, 0), (9, 0), (10, 0)] [0, 20, 0] _)
    refine su_iconst hC dX10_goes_233 ⟨by decide, by decide⟩ (?_ : SdS X 234 [(0, 20), (1, 0), (2, 0), (3, 0), (4, 0), (5, 0), (6, 1), (8, 0), (9, 0), (10, 0)] [0, 0, 20, 0] _)
    refine su_inv0 (τ := [0]) (τr := [0, 0]) (ci := 10) (q := (RX10, TX10, 45)) hC WG (M_X10_of _) rfl rfl rfl rfl  rfl rfl wl_7_131 wl_7_133 wp_96 wl_1_10 wl_7_134 hd_X10_of (by rw [e3]; decide) (by decide) dX10_goes_234 (?_ : SdS X 237 [(0, 20), (1, 0), (2, 0), (3, 0), (4, 0), (5, 0), (6, 1), (8, 0), (9, 0), (10, 0)] [0, 0] _)
    refine su_invs (τ := []) (τs := [0, 0]) hC false "" WG (M_X10_round _) rfl rfl rfl rfl wl_7_168 wl_7_169 wl_1_10 wl_7_170 hd_X10_round (by rw [e3]; decide) (by decide) dX10_goes_237 (?_ : SdS X 240 [(0, 20), (1, 0), (2, 0), (3, 0), (4, 0), (5, 0), (6, 1), (8, 0), (9, 0), (10, 0)] [0] _)
    refine su_i2l hC dX10_goes_240 (?_ : SdS X 241 [(0, 20), (1, 0), (2, 0), (3, 0), (4, 0), (5, 0), (6, 1), (8, 0), (9, 0), (10, 0)] [1] _)
    refine su_aload_n hC 20 dX10_goes_241 rfl (by decide) (by decide) (?_ : SdS X 242 [(0, 20), (1, 0), (2, 0), (3, 0), (4, 0), (5, 0), (6, 1), (8, 0), (9, 0), (10, 0)] [20, 1] _)
    refine su_getR hC (ci := 10) (j := 24) (C := RX10) (T := TX10) (N := 45) rfl rfl (by decide) in_X10 wl_5_188 rfl dX10_goes_242 (?_ : SdS X 245 [(0, 20), (1, 0), (2, 0), (3, 0), (4, 0), (5, 0), (6, 1), (8, 0), (9, 0), (10, 0)] [101, 1] _)
    refine su_bipush hC dX10_goes_245 (by decide) (?_ : SdS X 247 [(0, 20), (1, 0), (2, 0), (3, 0), (4, 0), (5, 0), (6, 1), (8, 0), (9, 0), (10, 0)] [0, 101, 1] _)
    refine su_iload hC dX10_goes_247 (by decide) (?_ : SdS X 249 [(0, 20), (1, 0), (2, 0), (3, 0), (4, 0), (5, 0), (6, 1), (8, 0), (9, 0), (10, 0)] [0, 0, 101, 1] _)
    refine su_imul hC dX10_goes_249 (?_ : SdS X 250 [(0, 20), (1, 0), (2, 0), (3, 0), (4, 0), (5, 0), (6, 1), (8, 0), (9, 0), (10, 0)] [0, 101, 1] _)
    refine su_iload hC dX10_goes_250 (by decide) (?_ : SdS X 252 [(0, 20), (1, 0), (2, 0), (3, 0), (4, 0), (5, 0), (6, 1), (8, 0), (9, 0), (10, 0)] [0, 0, 101, 1] _)
    refine su_iadd hC dX10_goes_252 (?_ : SdS X 253 [(0, 20), (1, 0), (2, 0), (3, 0), (4, 0), (5, 0), (6, 1), (8, 0), (9, 0), (10, 0)] [0, 101, 1] _)
    refine su_laload hC dX10_goes_253 (?_ : SdS X 254 [(0, 20), (1, 0), (2, 0), (3, 0), (4, 0), (5, 0), (6, 1), (8, 0), (9, 0), (10, 0)] [1, 1] _)
    refine su_ladd hC dX10_goes_254 (?_ : SdS X 255 [(0, 20), (1, 0), (2, 0), (3, 0), (4, 0), (5, 0), (6, 1), (8, 0), (9, 0), (10, 0)] [1] _)
    refine su_aload_n hC 20 dX10_goes_255 rfl (by decide) (by decide) (?_ : SdS X 256 [(0, 20), (1, 0), (2, 0), (3, 0), (4, 0), (5, 0), (6, 1), (8, 0), (9, 0), (10, 0)] [20, 1] _)
    refine su_iload hC dX10_goes_256 (by decide) (?_ : SdS X 258 [(0, 20), (1, 0), (2, 0), (3, 0), (4, 0), (5, 0), (6, 1), (8, 0), (9, 0), (10, 0)] [0, 20, 1] _)
    refine su_iload hC dX10_goes_258 (by decide) (?_ : SdS X 260 [(0, 20), (1, 0), (2, 0), (3, 0), (4, 0), (5, 0), (6, 1), (8, 0), (9, 0), (10, 0)] [0, 0, 20, 1] _)
    refine su_iload hC dX10_goes_260 (by decide) (?_ : SdS X 262 [(0, 20), (1, 0), (2, 0), (3, 0), (4, 0), (5, 0), (6, 1), (8, 0), (9, 0), (10, 0)] [0, 0, 0, 20, 1] _)
    refine su_inv0 (τ := [1]) (τr := [0, 0, 0]) (ci := 10) (q := (RX10, TX10, 45)) hC WG (M_X10_from _) rfl rfl rfl rfl  rfl rfl wl_7_164 wl_7_166 wp_104 wl_1_10 wl_7_167 hd_X10_from (by rw [e3]; decide) (by decide) dX10_goes_262 (?_ : SdS X 265 [(0, 20), (1, 0), (2, 0), (3, 0), (4, 0), (5, 0), (6, 1), (8, 0), (9, 0), (10, 0)] [1, 1] _)
    refine su_lcmp hC dX10_goes_265 (?_ : SdS X 266 [(0, 20), (1, 0), (2, 0), (3, 0), (4, 0), (5, 0), (6, 1), (8, 0), (9, 0), (10, 0)] [0] _)
    refine su_if_eq (tgt := 275) hC dX10_goes_266 rfl (?_ : SdS X 275 [(0, 20), (1, 0), (2, 0), (3, 0), (4, 0), (5, 0), (6, 1), (8, 0), (9, 0), (10, 0)] [] _) (?_ : SdS X 269 [(0, 20), (1, 0), (2, 0), (3, 0), (4, 0), (5, 0), (6, 1), (8, 0), (9, 0), (10, 0)] [] _)
    · refine su_aload_n hC 20 dX10_goes_275 rfl (by decide) (by decide) (?_ : SdS X 276 [(0, 20), (1, 0), (2, 0), (3, 0), (4, 0), (5, 0), (6, 1), (8, 0), (9, 0), (10, 0)] [20] _)
      refine su_getR hC (ci := 10) (j := 25) (C := RX10) (T := TX10) (N := 45) rfl rfl (by decide) in_X10 wl_5_189 rfl dX10_goes_276 (?_ : SdS X 279 [(0, 20), (1, 0), (2, 0), (3, 0), (4, 0), (5, 0), (6, 1), (8, 0), (9, 0), (10, 0)] [100] _)
      refine su_iload hC dX10_goes_279 (by decide) (?_ : SdS X 281 [(0, 20), (1, 0), (2, 0), (3, 0), (4, 0), (5, 0), (6, 1), (8, 0), (9, 0), (10, 0)] [0, 100] _)
      refine su_iload hC dX10_goes_281 (by decide) (?_ : SdS X 283 [(0, 20), (1, 0), (2, 0), (3, 0), (4, 0), (5, 0), (6, 1), (8, 0), (9, 0), (10, 0)] [0, 0, 100] _)
      refine su_iastore hC dX10_goes_283 (?_ : SdS X 284 [(0, 20), (1, 0), (2, 0), (3, 0), (4, 0), (5, 0), (6, 1), (8, 0), (9, 0), (10, 0)] [] _)
      refine su_aload_n hC 20 dX10_goes_284 rfl (by decide) (by decide) (?_ : SdS X 285 [(0, 20), (1, 0), (2, 0), (3, 0), (4, 0), (5, 0), (6, 1), (8, 0), (9, 0), (10, 0)] [20] _)
      refine su_iload hC dX10_goes_285 (by decide) (?_ : SdS X 287 [(0, 20), (1, 0), (2, 0), (3, 0), (4, 0), (5, 0), (6, 1), (8, 0), (9, 0), (10, 0)] [0, 20] _)
      refine su_iconst hC dX10_goes_287 ⟨by decide, by decide⟩ (?_ : SdS X 288 [(0, 20), (1, 0), (2, 0), (3, 0), (4, 0), (5, 0), (6, 1), (8, 0), (9, 0), (10, 0)] [0, 0, 20] _)
      refine su_inv0 (τ := []) (τr := [0, 0]) (ci := 10) (q := (RX10, TX10, 45)) hC WG (M_X10_of _) rfl rfl rfl rfl  rfl rfl wl_7_131 wl_7_133 wp_96 wl_1_10 wl_7_134 hd_X10_of (by rw [e3]; decide) (by decide) dX10_goes_288 (?_ : SdS X 291 [(0, 20), (1, 0), (2, 0), (3, 0), (4, 0), (5, 0), (6, 1), (8, 0), (9, 0), (10, 0)] [0] _)
      refine su_istore (Γ' := [(0, 20), (1, 0), (2, 0), (3, 0), (4, 0), (5, 0), (6, 1), (8, 0), (9, 0), (10, 0)]) hC dX10_goes_291 (by rw [e2]; decide) (by decide) (?_ : SdS X 293 [(0, 20), (1, 0), (2, 0), (3, 0), (4, 0), (5, 0), (6, 1), (8, 0), (9, 0), (10, 0)] [] _)
      refine su_iinc (Γ' := [(0, 20), (1, 0), (2, 0), (3, 0), (4, 0), (5, 0), (6, 1), (8, 0), (9, 0), (10, 0)]) hC dX10_goes_293 (by decide) (by rw [e2]; decide) (by decide) (?_ : SdS X 296 [(0, 20), (1, 0), (2, 0), (3, 0), (4, 0), (5, 0), (6, 1), (8, 0), (9, 0), (10, 0)] [] _)
      refine su_goto (tgt := 216) hC dX10_goes_296 rfl (?_ : SdS X 216 [(0, 20), (1, 0), (2, 0), (3, 0), (4, 0), (5, 0), (6, 1), (8, 0), (9, 0), (10, 0)] [] _)
      exact SdS.weak (by decide) h216
    · refine su_iinc (Γ' := [(0, 20), (1, 0), (2, 0), (3, 0), (4, 0), (5, 0), (6, 1), (8, 0), (9, 0), (10, 0)]) hC dX10_goes_269 (by decide) (by rw [e2]; decide) (by decide) (?_ : SdS X 272 [(0, 20), (1, 0), (2, 0), (3, 0), (4, 0), (5, 0), (6, 1), (8, 0), (9, 0), (10, 0)] [] _)
      refine su_goto (tgt := 228) hC dX10_goes_272 rfl (?_ : SdS X 228 [(0, 20), (1, 0), (2, 0), (3, 0), (4, 0), (5, 0), (6, 1), (8, 0), (9, 0), (10, 0)] [] _)
      exact SdS.weak (by decide) h228
  have S_216 : SdS X 216 [(0, 20), (1, 0), (2, 0), (3, 0), (4, 0), (5, 0), (6, 1), (8, 0), (9, 0)] [] (L_X10_goes_216 Q) := by
    unfold L_X10_goes_216
    refine SdS.loop (fun k216 h216 => ?_)
    refine su_iload hC dX10_goes_216 (by decide) (?_ : SdS X 218 [(0, 20), (1, 0), (2, 0), (3, 0), (4, 0), (5, 0), (6, 1), (8, 0), (9, 0)] [0] _)
    refine su_aload_n hC 20 dX10_goes_218 rfl (by decide) (by decide) (?_ : SdS X 219 [(0, 20), (1, 0), (2, 0), (3, 0), (4, 0), (5, 0), (6, 1), (8, 0), (9, 0)] [20, 0] _)
    refine su_getF hC (ci := 10) (j := 26) (C := RX10) (T := TX10) (N := 45) rfl rfl (by decide) in_X10 wl_5_190 rfl dX10_goes_219 (?_ : SdS X 222 [(0, 20), (1, 0), (2, 0), (3, 0), (4, 0), (5, 0), (6, 1), (8, 0), (9, 0)] [0, 0] _)
    refine su_icmp_ge (tgt := 299) hC dX10_goes_222 rfl (?_ : SdS X 299 [(0, 20), (1, 0), (2, 0), (3, 0), (4, 0), (5, 0), (6, 1), (8, 0), (9, 0)] [] _) (?_ : SdS X 225 [(0, 20), (1, 0), (2, 0), (3, 0), (4, 0), (5, 0), (6, 1), (8, 0), (9, 0)] [] _)
    · refine su_lload hC dX10_goes_299 (by decide) (?_ : SdS X 301 [(0, 20), (1, 0), (2, 0), (3, 0), (4, 0), (5, 0), (6, 1), (8, 0), (9, 0)] [1] _)
      exact su_lreturn hC hT dX10_goes_301
    · refine su_iconst hC dX10_goes_225 ⟨by decide, by decide⟩ (?_ : SdS X 226 [(0, 20), (1, 0), (2, 0), (3, 0), (4, 0), (5, 0), (6, 1), (8, 0), (9, 0)] [0] _)
      refine su_istore (Γ' := [(0, 20), (1, 0), (2, 0), (3, 0), (4, 0), (5, 0), (6, 1), (8, 0), (9, 0), (10, 0)]) hC dX10_goes_226 (by rw [e2]; decide) (by decide) (?_ : SdS X 228 [(0, 20), (1, 0), (2, 0), (3, 0), (4, 0), (5, 0), (6, 1), (8, 0), (9, 0), (10, 0)] [] _)
      exact SdS.weak (by decide) (S_228 k216 h216)
  have S_174 : ∀ (k74 : xK), SdS X 74 [(0, 20), (1, 0), (2, 0), (3, 0), (4, 0), (5, 0), (6, 0)] [] k74 → ∀ (k102 : xK), SdS X 102 [(0, 20), (1, 0), (2, 0), (3, 0), (4, 0), (5, 0), (6, 0), (7, 0), (8, 0)] [] k102 → SdS X 174 [(0, 20), (1, 0), (2, 0), (3, 0), (4, 0), (5, 0), (6, 0), (7, 0), (8, 0)] [1, 0, 101] (B_X10_goes_174 Q k74 k102) := by
    intro k74 h74 k102 h102
    unfold B_X10_goes_174
    refine su_lastore hC dX10_goes_174 (?_ : SdS X 175 [(0, 20), (1, 0), (2, 0), (3, 0), (4, 0), (5, 0), (6, 0), (7, 0), (8, 0)] [] _)
    refine su_iinc (Γ' := [(0, 20), (1, 0), (2, 0), (3, 0), (4, 0), (5, 0), (6, 0), (7, 0), (8, 0)]) hC dX10_goes_175 (by decide) (by rw [e2]; decide) (by decide) (?_ : SdS X 178 [(0, 20), (1, 0), (2, 0), (3, 0), (4, 0), (5, 0), (6, 0), (7, 0), (8, 0)] [] _)
    refine su_goto (tgt := 102) hC dX10_goes_178 rfl (?_ : SdS X 102 [(0, 20), (1, 0), (2, 0), (3, 0), (4, 0), (5, 0), (6, 0), (7, 0), (8, 0)] [] _)
    exact SdS.weak (by decide) h102
  have S_171 : ∀ (k74 : xK), SdS X 74 [(0, 20), (1, 0), (2, 0), (3, 0), (4, 0), (5, 0), (6, 0)] [] k74 → ∀ (k102 : xK), SdS X 102 [(0, 20), (1, 0), (2, 0), (3, 0), (4, 0), (5, 0), (6, 0), (7, 0), (8, 0)] [] k102 → SdS X 171 [(0, 20), (1, 0), (2, 0), (3, 0), (4, 0), (5, 0), (6, 0), (7, 0), (8, 0)] [0, 101] (B_X10_goes_171 Q k74 k102) := by
    intro k74 h74 k102 h102
    unfold B_X10_goes_171
    refine su_ldc2 hC wl_7_130 dX10_goes_171 ⟨by decide, by decide⟩ (?_ : SdS X 174 [(0, 20), (1, 0), (2, 0), (3, 0), (4, 0), (5, 0), (6, 0), (7, 0), (8, 0)] [1, 0, 101] _)
    exact SdS.weak (by decide) (S_174 k74 h74 k102 h102)
  have S_102 : ∀ (k74 : xK), SdS X 74 [(0, 20), (1, 0), (2, 0), (3, 0), (4, 0), (5, 0), (6, 0)] [] k74 → SdS X 102 [(0, 20), (1, 0), (2, 0), (3, 0), (4, 0), (5, 0), (6, 0), (7, 0), (8, 0)] [] (L_X10_goes_102 Q k74) := by
    intro k74 h74
    unfold L_X10_goes_102
    refine SdS.loop (fun k102 h102 => ?_)
    refine su_iload hC dX10_goes_102 (by decide) (?_ : SdS X 104 [(0, 20), (1, 0), (2, 0), (3, 0), (4, 0), (5, 0), (6, 0), (7, 0), (8, 0)] [0] _)
    refine su_aload_n hC 20 dX10_goes_104 rfl (by decide) (by decide) (?_ : SdS X 105 [(0, 20), (1, 0), (2, 0), (3, 0), (4, 0), (5, 0), (6, 0), (7, 0), (8, 0)] [20, 0] _)
    refine su_getF hC (ci := 10) (j := 17) (C := RX10) (T := TX10) (N := 45) rfl rfl (by decide) in_X10 wl_5_181 rfl dX10_goes_105 (?_ : SdS X 108 [(0, 20), (1, 0), (2, 0), (3, 0), (4, 0), (5, 0), (6, 0), (7, 0), (8, 0)] [0, 0] _)
    refine su_icmp_ge (tgt := 181) hC dX10_goes_108 rfl (?_ : SdS X 181 [(0, 20), (1, 0), (2, 0), (3, 0), (4, 0), (5, 0), (6, 0), (7, 0), (8, 0)] [] _) (?_ : SdS X 111 [(0, 20), (1, 0), (2, 0), (3, 0), (4, 0), (5, 0), (6, 0), (7, 0), (8, 0)] [] _)
    · refine su_iinc (Γ' := [(0, 20), (1, 0), (2, 0), (3, 0), (4, 0), (5, 0), (6, 0), (7, 0), (8, 0)]) hC dX10_goes_181 (by decide) (by rw [e2]; decide) (by decide) (?_ : SdS X 184 [(0, 20), (1, 0), (2, 0), (3, 0), (4, 0), (5, 0), (6, 0), (7, 0), (8, 0)] [] _)
      refine su_goto (tgt := 74) hC dX10_goes_184 rfl (?_ : SdS X 74 [(0, 20), (1, 0), (2, 0), (3, 0), (4, 0), (5, 0), (6, 0), (7, 0), (8, 0)] [] _)
      exact SdS.weak (by decide) h74
    · refine su_aload_n hC 20 dX10_goes_111 rfl (by decide) (by decide) (?_ : SdS X 112 [(0, 20), (1, 0), (2, 0), (3, 0), (4, 0), (5, 0), (6, 0), (7, 0), (8, 0)] [20] _)
      refine su_getR hC (ci := 10) (j := 24) (C := RX10) (T := TX10) (N := 45) rfl rfl (by decide) in_X10 wl_5_188 rfl dX10_goes_112 (?_ : SdS X 115 [(0, 20), (1, 0), (2, 0), (3, 0), (4, 0), (5, 0), (6, 0), (7, 0), (8, 0)] [101] _)
      refine su_bipush hC dX10_goes_115 (by decide) (?_ : SdS X 117 [(0, 20), (1, 0), (2, 0), (3, 0), (4, 0), (5, 0), (6, 0), (7, 0), (8, 0)] [0, 101] _)
      refine su_iload hC dX10_goes_117 (by decide) (?_ : SdS X 119 [(0, 20), (1, 0), (2, 0), (3, 0), (4, 0), (5, 0), (6, 0), (7, 0), (8, 0)] [0, 0, 101] _)
      refine su_imul hC dX10_goes_119 (?_ : SdS X 120 [(0, 20), (1, 0), (2, 0), (3, 0), (4, 0), (5, 0), (6, 0), (7, 0), (8, 0)] [0, 101] _)
      refine su_iload hC dX10_goes_120 (by decide) (?_ : SdS X 122 [(0, 20), (1, 0), (2, 0), (3, 0), (4, 0), (5, 0), (6, 0), (7, 0), (8, 0)] [0, 0, 101] _)
      refine su_iadd hC dX10_goes_122 (?_ : SdS X 123 [(0, 20), (1, 0), (2, 0), (3, 0), (4, 0), (5, 0), (6, 0), (7, 0), (8, 0)] [0, 101] _)
      refine su_aload_n hC 20 dX10_goes_123 rfl (by decide) (by decide) (?_ : SdS X 124 [(0, 20), (1, 0), (2, 0), (3, 0), (4, 0), (5, 0), (6, 0), (7, 0), (8, 0)] [20, 0, 101] _)
      refine su_iload hC dX10_goes_124 (by decide) (?_ : SdS X 126 [(0, 20), (1, 0), (2, 0), (3, 0), (4, 0), (5, 0), (6, 0), (7, 0), (8, 0)] [0, 20, 0, 101] _)
      refine su_iconst hC dX10_goes_126 ⟨by decide, by decide⟩ (?_ : SdS X 127 [(0, 20), (1, 0), (2, 0), (3, 0), (4, 0), (5, 0), (6, 0), (7, 0), (8, 0)] [0, 0, 20, 0, 101] _)
      refine su_inv0 (τ := [0, 101]) (τr := [0, 0]) (ci := 10) (q := (RX10, TX10, 45)) hC WG (M_X10_of _) rfl rfl rfl rfl  rfl rfl wl_7_131 wl_7_133 wp_96 wl_1_10 wl_7_134 hd_X10_of (by rw [e3]; decide) (by decide) dX10_goes_127 (?_ : SdS X 130 [(0, 20), (1, 0), (2, 0), (3, 0), (4, 0), (5, 0), (6, 0), (7, 0), (8, 0)] [0, 0, 101] _)
      refine su_iload hC dX10_goes_130 (by decide) (?_ : SdS X 132 [(0, 20), (1, 0), (2, 0), (3, 0), (4, 0), (5, 0), (6, 0), (7, 0), (8, 0)] [0, 0, 0, 101] _)
      refine su_icmp_ne (tgt := 171) hC dX10_goes_132 rfl (?_ : SdS X 171 [(0, 20), (1, 0), (2, 0), (3, 0), (4, 0), (5, 0), (6, 0), (7, 0), (8, 0)] [0, 101] _) (?_ : SdS X 135 [(0, 20), (1, 0), (2, 0), (3, 0), (4, 0), (5, 0), (6, 0), (7, 0), (8, 0)] [0, 101] _)
      · exact SdS.weak (by decide) (S_171 k74 h74 k102 h102)
      · refine su_aload_n hC 20 dX10_goes_135 rfl (by decide) (by decide) (?_ : SdS X 136 [(0, 20), (1, 0), (2, 0), (3, 0), (4, 0), (5, 0), (6, 0), (7, 0), (8, 0)] [20, 0, 101] _)
        refine su_iload hC dX10_goes_136 (by decide) (?_ : SdS X 138 [(0, 20), (1, 0), (2, 0), (3, 0), (4, 0), (5, 0), (6, 0), (7, 0), (8, 0)] [0, 20, 0, 101] _)
        refine su_inv0 (τ := [0, 101]) (τr := [0]) (ci := 10) (q := (RX10, TX10, 45)) hC WG (M_X10_goesThrough _) rfl rfl rfl rfl  rfl rfl wl_7_135 wl_7_137 wp_97 wl_1_10 wl_7_138 hd_X10_goesThrough (by rw [e3]; decide) (by decide) dX10_goes_138 (?_ : SdS X 141 [(0, 20), (1, 0), (2, 0), (3, 0), (4, 0), (5, 0), (6, 0), (7, 0), (8, 0)] [0, 0, 101] _)
        refine su_if_eq (tgt := 171) hC dX10_goes_141 rfl (?_ : SdS X 171 [(0, 20), (1, 0), (2, 0), (3, 0), (4, 0), (5, 0), (6, 0), (7, 0), (8, 0)] [0, 101] _) (?_ : SdS X 144 [(0, 20), (1, 0), (2, 0), (3, 0), (4, 0), (5, 0), (6, 0), (7, 0), (8, 0)] [0, 101] _)
        · exact SdS.weak (by decide) (S_171 k74 h74 k102 h102)
        · refine su_aload_n hC 20 dX10_goes_144 rfl (by decide) (by decide) (?_ : SdS X 145 [(0, 20), (1, 0), (2, 0), (3, 0), (4, 0), (5, 0), (6, 0), (7, 0), (8, 0)] [20, 0, 101] _)
          refine su_iload hC dX10_goes_145 (by decide) (?_ : SdS X 147 [(0, 20), (1, 0), (2, 0), (3, 0), (4, 0), (5, 0), (6, 0), (7, 0), (8, 0)] [0, 20, 0, 101] _)
          refine su_inv0 (τ := [0, 101]) (τr := [0]) (ci := 10) (q := (RX10, TX10, 45)) hC WG (M_X10_paysAt _) rfl rfl rfl rfl  rfl rfl wl_7_155 wl_7_157 wp_102 wl_1_10 wl_7_158 hd_X10_paysAt (by rw [e3]; decide) (by decide) dX10_goes_147 (?_ : SdS X 150 [(0, 20), (1, 0), (2, 0), (3, 0), (4, 0), (5, 0), (6, 0), (7, 0), (8, 0)] [1, 0, 101] _)
          refine su_aload_n hC 20 dX10_goes_150 rfl (by decide) (by decide) (?_ : SdS X 151 [(0, 20), (1, 0), (2, 0), (3, 0), (4, 0), (5, 0), (6, 0), (7, 0), (8, 0)] [20, 1, 0, 101] _)
          refine su_iload hC dX10_goes_151 (by decide) (?_ : SdS X 153 [(0, 20), (1, 0), (2, 0), (3, 0), (4, 0), (5, 0), (6, 0), (7, 0), (8, 0)] [0, 20, 1, 0, 101] _)
          refine su_iconst hC dX10_goes_153 ⟨by decide, by decide⟩ (?_ : SdS X 154 [(0, 20), (1, 0), (2, 0), (3, 0), (4, 0), (5, 0), (6, 0), (7, 0), (8, 0)] [0, 0, 20, 1, 0, 101] _)
          refine su_iadd hC dX10_goes_154 (?_ : SdS X 155 [(0, 20), (1, 0), (2, 0), (3, 0), (4, 0), (5, 0), (6, 0), (7, 0), (8, 0)] [0, 20, 1, 0, 101] _)
          refine su_aload_n hC 20 dX10_goes_155 rfl (by decide) (by decide) (?_ : SdS X 156 [(0, 20), (1, 0), (2, 0), (3, 0), (4, 0), (5, 0), (6, 0), (7, 0), (8, 0)] [20, 0, 20, 1, 0, 101] _)
          refine su_iload hC dX10_goes_156 (by decide) (?_ : SdS X 158 [(0, 20), (1, 0), (2, 0), (3, 0), (4, 0), (5, 0), (6, 0), (7, 0), (8, 0)] [0, 20, 0, 20, 1, 0, 101] _)
          refine su_iconst hC dX10_goes_158 ⟨by decide, by decide⟩ (?_ : SdS X 159 [(0, 20), (1, 0), (2, 0), (3, 0), (4, 0), (5, 0), (6, 0), (7, 0), (8, 0)] [0, 0, 20, 0, 20, 1, 0, 101] _)
          refine su_inv0 (τ := [0, 20, 1, 0, 101]) (τr := [0, 0]) (ci := 10) (q := (RX10, TX10, 45)) hC WG (M_X10_of _) rfl rfl rfl rfl  rfl rfl wl_7_131 wl_7_133 wp_96 wl_1_10 wl_7_134 hd_X10_of (by rw [e3]; decide) (by decide) dX10_goes_159 (?_ : SdS X 162 [(0, 20), (1, 0), (2, 0), (3, 0), (4, 0), (5, 0), (6, 0), (7, 0), (8, 0)] [0, 0, 20, 1, 0, 101] _)
          refine su_iload hC dX10_goes_162 (by decide) (?_ : SdS X 164 [(0, 20), (1, 0), (2, 0), (3, 0), (4, 0), (5, 0), (6, 0), (7, 0), (8, 0)] [0, 0, 0, 20, 1, 0, 101] _)
          refine su_inv0 (τ := [1, 0, 101]) (τr := [0, 0, 0]) (ci := 10) (q := (RX10, TX10, 45)) hC WG (M_X10_from _) rfl rfl rfl rfl  rfl rfl wl_7_164 wl_7_166 wp_104 wl_1_10 wl_7_167 hd_X10_from (by rw [e3]; decide) (by decide) dX10_goes_164 (?_ : SdS X 167 [(0, 20), (1, 0), (2, 0), (3, 0), (4, 0), (5, 0), (6, 0), (7, 0), (8, 0)] [1, 1, 0, 101] _)
          refine su_ladd hC dX10_goes_167 (?_ : SdS X 168 [(0, 20), (1, 0), (2, 0), (3, 0), (4, 0), (5, 0), (6, 0), (7, 0), (8, 0)] [1, 0, 101] _)
          refine su_goto (tgt := 174) hC dX10_goes_168 rfl (?_ : SdS X 174 [(0, 20), (1, 0), (2, 0), (3, 0), (4, 0), (5, 0), (6, 0), (7, 0), (8, 0)] [1, 0, 101] _)
          exact SdS.weak (by decide) (S_174 k74 h74 k102 h102)
  have S_97 : ∀ (k74 : xK), SdS X 74 [(0, 20), (1, 0), (2, 0), (3, 0), (4, 0), (5, 0), (6, 0)] [] k74 → SdS X 97 [(0, 20), (1, 0), (2, 0), (3, 0), (4, 0), (5, 0), (6, 0)] [0] (B_X10_goes_97 Q k74) := by
    intro k74 h74
    unfold B_X10_goes_97
    refine su_istore (Γ' := [(0, 20), (1, 0), (2, 0), (3, 0), (4, 0), (5, 0), (6, 0), (7, 0)]) hC dX10_goes_97 (by rw [e2]; decide) (by decide) (?_ : SdS X 99 [(0, 20), (1, 0), (2, 0), (3, 0), (4, 0), (5, 0), (6, 0), (7, 0)] [] _)
    refine su_iconst hC dX10_goes_99 ⟨by decide, by decide⟩ (?_ : SdS X 100 [(0, 20), (1, 0), (2, 0), (3, 0), (4, 0), (5, 0), (6, 0), (7, 0)] [0] _)
    refine su_istore (Γ' := [(0, 20), (1, 0), (2, 0), (3, 0), (4, 0), (5, 0), (6, 0), (7, 0), (8, 0)]) hC dX10_goes_100 (by rw [e2]; decide) (by decide) (?_ : SdS X 102 [(0, 20), (1, 0), (2, 0), (3, 0), (4, 0), (5, 0), (6, 0), (7, 0), (8, 0)] [] _)
    exact SdS.weak (by decide) (S_102 k74 h74)
  have S_74 : SdS X 74 [(0, 20), (1, 0), (2, 0), (3, 0), (4, 0), (5, 0), (6, 0)] [] (L_X10_goes_74 Q) := by
    unfold L_X10_goes_74
    refine SdS.loop (fun k74 h74 => ?_)
    refine su_iload hC dX10_goes_74 (by decide) (?_ : SdS X 76 [(0, 20), (1, 0), (2, 0), (3, 0), (4, 0), (5, 0), (6, 0)] [0] _)
    refine su_if_lt (tgt := 187) hC dX10_goes_76 rfl (?_ : SdS X 187 [(0, 20), (1, 0), (2, 0), (3, 0), (4, 0), (5, 0), (6, 0)] [] _) (?_ : SdS X 79 [(0, 20), (1, 0), (2, 0), (3, 0), (4, 0), (5, 0), (6, 0)] [] _)
    · refine su_aload_n hC 20 dX10_goes_187 rfl (by decide) (by decide) (?_ : SdS X 188 [(0, 20), (1, 0), (2, 0), (3, 0), (4, 0), (5, 0), (6, 0)] [20] _)
      refine su_iconst hC dX10_goes_188 ⟨by decide, by decide⟩ (?_ : SdS X 189 [(0, 20), (1, 0), (2, 0), (3, 0), (4, 0), (5, 0), (6, 0)] [0, 20] _)
      refine su_iload_n hC dX10_goes_189 rfl (by decide) (?_ : SdS X 190 [(0, 20), (1, 0), (2, 0), (3, 0), (4, 0), (5, 0), (6, 0)] [0, 0, 20] _)
      refine su_iload hC dX10_goes_190 (by decide) (?_ : SdS X 192 [(0, 20), (1, 0), (2, 0), (3, 0), (4, 0), (5, 0), (6, 0)] [0, 0, 0, 20] _)
      refine su_inv0 (τ := []) (τr := [0, 0, 0]) (ci := 10) (q := (RX10, TX10, 45)) hC WG (M_X10_from _) rfl rfl rfl rfl  rfl rfl wl_7_164 wl_7_166 wp_104 wl_1_10 wl_7_167 hd_X10_from (by rw [e3]; decide) (by decide) dX10_goes_192 (?_ : SdS X 195 [(0, 20), (1, 0), (2, 0), (3, 0), (4, 0), (5, 0), (6, 0)] [1] _)
      refine su_lstore (Γ' := [(0, 20), (1, 0), (2, 0), (3, 0), (4, 0), (5, 0), (6, 1)]) hC dX10_goes_195 (by rw [e2]; decide) (by decide) (?_ : SdS X 197 [(0, 20), (1, 0), (2, 0), (3, 0), (4, 0), (5, 0), (6, 1)] [] _)
      refine su_lload hC dX10_goes_197 (by decide) (?_ : SdS X 199 [(0, 20), (1, 0), (2, 0), (3, 0), (4, 0), (5, 0), (6, 1)] [1] _)
      refine su_ldc2 hC wl_7_130 dX10_goes_199 ⟨by decide, by decide⟩ (?_ : SdS X 202 [(0, 20), (1, 0), (2, 0), (3, 0), (4, 0), (5, 0), (6, 1)] [1, 1] _)
      refine su_lcmp hC dX10_goes_202 (?_ : SdS X 203 [(0, 20), (1, 0), (2, 0), (3, 0), (4, 0), (5, 0), (6, 1)] [0] _)
      refine su_if_lt (tgt := 210) hC dX10_goes_203 rfl (?_ : SdS X 210 [(0, 20), (1, 0), (2, 0), (3, 0), (4, 0), (5, 0), (6, 1)] [] _) (?_ : SdS X 206 [(0, 20), (1, 0), (2, 0), (3, 0), (4, 0), (5, 0), (6, 1)] [] _)
      · refine su_iload_n hC dX10_goes_210 rfl (by decide) (?_ : SdS X 211 [(0, 20), (1, 0), (2, 0), (3, 0), (4, 0), (5, 0), (6, 1)] [0] _)
        refine su_istore (Γ' := [(0, 20), (1, 0), (2, 0), (3, 0), (4, 0), (5, 0), (6, 1), (8, 0)]) hC dX10_goes_211 (by rw [e2]; decide) (by decide) (?_ : SdS X 213 [(0, 20), (1, 0), (2, 0), (3, 0), (4, 0), (5, 0), (6, 1), (8, 0)] [] _)
        refine su_iconst hC dX10_goes_213 ⟨by decide, by decide⟩ (?_ : SdS X 214 [(0, 20), (1, 0), (2, 0), (3, 0), (4, 0), (5, 0), (6, 1), (8, 0)] [0] _)
        refine su_istore (Γ' := [(0, 20), (1, 0), (2, 0), (3, 0), (4, 0), (5, 0), (6, 1), (8, 0), (9, 0)]) hC dX10_goes_214 (by rw [e2]; decide) (by decide) (?_ : SdS X 216 [(0, 20), (1, 0), (2, 0), (3, 0), (4, 0), (5, 0), (6, 1), (8, 0), (9, 0)] [] _)
        exact SdS.weak (by decide) (S_216)
      · refine su_ldc2 hC wl_7_130 dX10_goes_206 ⟨by decide, by decide⟩ (?_ : SdS X 209 [(0, 20), (1, 0), (2, 0), (3, 0), (4, 0), (5, 0), (6, 1)] [1] _)
        exact su_lreturn hC hT dX10_goes_209
    · refine su_iload hC dX10_goes_79 (by decide) (?_ : SdS X 81 [(0, 20), (1, 0), (2, 0), (3, 0), (4, 0), (5, 0), (6, 0)] [0] _)
      refine su_if_le (tgt := 91) hC dX10_goes_81 rfl (?_ : SdS X 91 [(0, 20), (1, 0), (2, 0), (3, 0), (4, 0), (5, 0), (6, 0)] [] _) (?_ : SdS X 84 [(0, 20), (1, 0), (2, 0), (3, 0), (4, 0), (5, 0), (6, 0)] [] _)
      · refine su_iload_n hC dX10_goes_91 rfl (by decide) (?_ : SdS X 92 [(0, 20), (1, 0), (2, 0), (3, 0), (4, 0), (5, 0), (6, 0)] [0] _)
        refine su_iload hC dX10_goes_92 (by decide) (?_ : SdS X 94 [(0, 20), (1, 0), (2, 0), (3, 0), (4, 0), (5, 0), (6, 0)] [0, 0] _)
        refine su_isub hC dX10_goes_94 (?_ : SdS X 95 [(0, 20), (1, 0), (2, 0), (3, 0), (4, 0), (5, 0), (6, 0)] [0] _)
        refine su_iconst hC dX10_goes_95 ⟨by decide, by decide⟩ (?_ : SdS X 96 [(0, 20), (1, 0), (2, 0), (3, 0), (4, 0), (5, 0), (6, 0)] [0, 0] _)
        refine su_isub hC dX10_goes_96 (?_ : SdS X 97 [(0, 20), (1, 0), (2, 0), (3, 0), (4, 0), (5, 0), (6, 0)] [0] _)
        exact SdS.weak (by decide) (S_97 k74 h74)
      · refine su_iload_n hC dX10_goes_84 rfl (by decide) (?_ : SdS X 85 [(0, 20), (1, 0), (2, 0), (3, 0), (4, 0), (5, 0), (6, 0)] [0] _)
        refine su_iload hC dX10_goes_85 (by decide) (?_ : SdS X 87 [(0, 20), (1, 0), (2, 0), (3, 0), (4, 0), (5, 0), (6, 0)] [0, 0] _)
        refine su_iadd hC dX10_goes_87 (?_ : SdS X 88 [(0, 20), (1, 0), (2, 0), (3, 0), (4, 0), (5, 0), (6, 0)] [0] _)
        refine su_goto (tgt := 97) hC dX10_goes_88 rfl (?_ : SdS X 97 [(0, 20), (1, 0), (2, 0), (3, 0), (4, 0), (5, 0), (6, 0)] [0] _)
        exact SdS.weak (by decide) (S_97 k74 h74)
  have S_33 : SdS X 33 [(0, 20), (1, 0), (2, 0), (3, 0), (4, 0), (5, 0), (6, 0)] [] (L_X10_goes_33 Q) := by
    unfold L_X10_goes_33
    refine SdS.loop (fun k33 h33 => ?_)
    refine su_iload hC dX10_goes_33 (by decide) (?_ : SdS X 35 [(0, 20), (1, 0), (2, 0), (3, 0), (4, 0), (5, 0), (6, 0)] [0] _)
    refine su_aload_n hC 20 dX10_goes_35 rfl (by decide) (by decide) (?_ : SdS X 36 [(0, 20), (1, 0), (2, 0), (3, 0), (4, 0), (5, 0), (6, 0)] [20, 0] _)
    refine su_getF hC (ci := 10) (j := 26) (C := RX10) (T := TX10) (N := 45) rfl rfl (by decide) in_X10 wl_5_190 rfl dX10_goes_36 (?_ : SdS X 39 [(0, 20), (1, 0), (2, 0), (3, 0), (4, 0), (5, 0), (6, 0)] [0, 0] _)
    refine su_icmp_gt (tgt := 66) hC dX10_goes_39 rfl (?_ : SdS X 66 [(0, 20), (1, 0), (2, 0), (3, 0), (4, 0), (5, 0), (6, 0)] [] _) (?_ : SdS X 42 [(0, 20), (1, 0), (2, 0), (3, 0), (4, 0), (5, 0), (6, 0)] [] _)
    · refine su_aload_n hC 20 dX10_goes_66 rfl (by decide) (by decide) (?_ : SdS X 67 [(0, 20), (1, 0), (2, 0), (3, 0), (4, 0), (5, 0), (6, 0)] [20] _)
      refine su_getF hC (ci := 10) (j := 26) (C := RX10) (T := TX10) (N := 45) rfl rfl (by decide) in_X10 wl_5_190 rfl dX10_goes_67 (?_ : SdS X 70 [(0, 20), (1, 0), (2, 0), (3, 0), (4, 0), (5, 0), (6, 0)] [0] _)
      refine su_iconst hC dX10_goes_70 ⟨by decide, by decide⟩ (?_ : SdS X 71 [(0, 20), (1, 0), (2, 0), (3, 0), (4, 0), (5, 0), (6, 0)] [0, 0] _)
      refine su_isub hC dX10_goes_71 (?_ : SdS X 72 [(0, 20), (1, 0), (2, 0), (3, 0), (4, 0), (5, 0), (6, 0)] [0] _)
      refine su_istore (Γ' := [(0, 20), (1, 0), (2, 0), (3, 0), (4, 0), (5, 0), (6, 0)]) hC dX10_goes_72 (by rw [e2]; decide) (by decide) (?_ : SdS X 74 [(0, 20), (1, 0), (2, 0), (3, 0), (4, 0), (5, 0), (6, 0)] [] _)
      exact SdS.weak (by decide) (S_74)
    · refine su_aload_n hC 20 dX10_goes_42 rfl (by decide) (by decide) (?_ : SdS X 43 [(0, 20), (1, 0), (2, 0), (3, 0), (4, 0), (5, 0), (6, 0)] [20] _)
      refine su_iload_n hC dX10_goes_43 rfl (by decide) (?_ : SdS X 44 [(0, 20), (1, 0), (2, 0), (3, 0), (4, 0), (5, 0), (6, 0)] [0, 20] _)
      refine su_iload hC dX10_goes_44 (by decide) (?_ : SdS X 46 [(0, 20), (1, 0), (2, 0), (3, 0), (4, 0), (5, 0), (6, 0)] [0, 0, 20] _)
      refine su_iload hC dX10_goes_46 (by decide) (?_ : SdS X 48 [(0, 20), (1, 0), (2, 0), (3, 0), (4, 0), (5, 0), (6, 0)] [0, 0, 0, 20] _)
      refine su_imul hC dX10_goes_48 (?_ : SdS X 49 [(0, 20), (1, 0), (2, 0), (3, 0), (4, 0), (5, 0), (6, 0)] [0, 0, 20] _)
      refine su_iadd hC dX10_goes_49 (?_ : SdS X 50 [(0, 20), (1, 0), (2, 0), (3, 0), (4, 0), (5, 0), (6, 0)] [0, 20] _)
      refine su_inv0 (τ := []) (τr := [0]) (ci := 10) (q := (RX10, TX10, 45)) hC WG (M_X10_isBorne _) rfl rfl rfl rfl  rfl rfl wl_7_114 wl_7_116 wp_92 wl_1_10 wl_7_117 hd_X10_isBorne (by rw [e3]; decide) (by decide) dX10_goes_50 (?_ : SdS X 53 [(0, 20), (1, 0), (2, 0), (3, 0), (4, 0), (5, 0), (6, 0)] [0] _)
      refine su_if_ne (tgt := 60) hC dX10_goes_53 rfl (?_ : SdS X 60 [(0, 20), (1, 0), (2, 0), (3, 0), (4, 0), (5, 0), (6, 0)] [] _) (?_ : SdS X 56 [(0, 20), (1, 0), (2, 0), (3, 0), (4, 0), (5, 0), (6, 0)] [] _)
      · refine su_iinc (Γ' := [(0, 20), (1, 0), (2, 0), (3, 0), (4, 0), (5, 0), (6, 0)]) hC dX10_goes_60 (by decide) (by rw [e2]; decide) (by decide) (?_ : SdS X 63 [(0, 20), (1, 0), (2, 0), (3, 0), (4, 0), (5, 0), (6, 0)] [] _)
        refine su_goto (tgt := 33) hC dX10_goes_63 rfl (?_ : SdS X 33 [(0, 20), (1, 0), (2, 0), (3, 0), (4, 0), (5, 0), (6, 0)] [] _)
        exact SdS.weak (by decide) h33
      · refine su_ldc2 hC wl_7_130 dX10_goes_56 ⟨by decide, by decide⟩ (?_ : SdS X 59 [(0, 20), (1, 0), (2, 0), (3, 0), (4, 0), (5, 0), (6, 0)] [1] _)
        exact su_lreturn hC hT dX10_goes_59
  have S_27 : SdS X 27 [(0, 20), (1, 0), (2, 0), (3, 0), (4, 0), (5, 0)] [0, 20] (B_X10_goes_27 Q) := by
    unfold B_X10_goes_27
    refine su_putF hC (ci := 10) (j := 26) (C := RX10) (T := TX10) (N := 45) tyX10 tyX10_ok nmX10 rfl rfl (by decide) in_X10 rfl rfl wl_5_190 rfl dX10_goes_27 (?_ : SdS X 30 [(0, 20), (1, 0), (2, 0), (3, 0), (4, 0), (5, 0)] [] _)
    refine su_iconst hC dX10_goes_30 ⟨by decide, by decide⟩ (?_ : SdS X 31 [(0, 20), (1, 0), (2, 0), (3, 0), (4, 0), (5, 0)] [0] _)
    refine su_istore (Γ' := [(0, 20), (1, 0), (2, 0), (3, 0), (4, 0), (5, 0), (6, 0)]) hC dX10_goes_31 (by rw [e2]; decide) (by decide) (?_ : SdS X 33 [(0, 20), (1, 0), (2, 0), (3, 0), (4, 0), (5, 0), (6, 0)] [] _)
    exact SdS.weak (by decide) (S_33)
  have S_10 : SdS X 10 [(0, 20), (1, 0), (2, 0), (3, 0), (4, 0)] [0] (B_X10_goes_10 Q) := by
    unfold B_X10_goes_10
    refine su_istore (Γ' := [(0, 20), (1, 0), (2, 0), (3, 0), (4, 0), (5, 0)]) hC dX10_goes_10 (by rw [e2]; decide) (by decide) (?_ : SdS X 12 [(0, 20), (1, 0), (2, 0), (3, 0), (4, 0), (5, 0)] [] _)
    refine su_aload_n hC 20 dX10_goes_12 rfl (by decide) (by decide) (?_ : SdS X 13 [(0, 20), (1, 0), (2, 0), (3, 0), (4, 0), (5, 0)] [20] _)
    refine su_iload_n hC dX10_goes_13 rfl (by decide) (?_ : SdS X 14 [(0, 20), (1, 0), (2, 0), (3, 0), (4, 0), (5, 0)] [0, 20] _)
    refine su_iload_n hC dX10_goes_14 rfl (by decide) (?_ : SdS X 15 [(0, 20), (1, 0), (2, 0), (3, 0), (4, 0), (5, 0)] [0, 0, 20] _)
    refine su_icmp_le (tgt := 24) hC dX10_goes_15 rfl (?_ : SdS X 24 [(0, 20), (1, 0), (2, 0), (3, 0), (4, 0), (5, 0)] [20] _) (?_ : SdS X 18 [(0, 20), (1, 0), (2, 0), (3, 0), (4, 0), (5, 0)] [20] _)
    · refine su_iload_n hC dX10_goes_24 rfl (by decide) (?_ : SdS X 25 [(0, 20), (1, 0), (2, 0), (3, 0), (4, 0), (5, 0)] [0, 20] _)
      refine su_iload_n hC dX10_goes_25 rfl (by decide) (?_ : SdS X 26 [(0, 20), (1, 0), (2, 0), (3, 0), (4, 0), (5, 0)] [0, 0, 20] _)
      refine su_isub hC dX10_goes_26 (?_ : SdS X 27 [(0, 20), (1, 0), (2, 0), (3, 0), (4, 0), (5, 0)] [0, 20] _)
      exact SdS.weak (by decide) (S_27)
    · refine su_iload_n hC dX10_goes_18 rfl (by decide) (?_ : SdS X 19 [(0, 20), (1, 0), (2, 0), (3, 0), (4, 0), (5, 0)] [0, 20] _)
      refine su_iload_n hC dX10_goes_19 rfl (by decide) (?_ : SdS X 20 [(0, 20), (1, 0), (2, 0), (3, 0), (4, 0), (5, 0)] [0, 0, 20] _)
      refine su_isub hC dX10_goes_20 (?_ : SdS X 21 [(0, 20), (1, 0), (2, 0), (3, 0), (4, 0), (5, 0)] [0, 20] _)
      refine su_goto (tgt := 27) hC dX10_goes_21 rfl (?_ : SdS X 27 [(0, 20), (1, 0), (2, 0), (3, 0), (4, 0), (5, 0)] [0, 20] _)
      exact SdS.weak (by decide) (S_27)
  refine (?_ : SdS X 0 [(0, 20), (1, 0), (2, 0), (3, 0), (4, 0)] [] (E_X10_goes Q))
  unfold E_X10_goes
  refine su_iload_n hC dX10_goes_0 rfl (by decide) (?_ : SdS X 1 [(0, 20), (1, 0), (2, 0), (3, 0), (4, 0)] [0] _)
  refine su_iload_n hC dX10_goes_1 rfl (by decide) (?_ : SdS X 2 [(0, 20), (1, 0), (2, 0), (3, 0), (4, 0)] [0, 0] _)
  refine su_icmp_le (tgt := 9) hC dX10_goes_2 rfl (?_ : SdS X 9 [(0, 20), (1, 0), (2, 0), (3, 0), (4, 0)] [] _) (?_ : SdS X 5 [(0, 20), (1, 0), (2, 0), (3, 0), (4, 0)] [] _)
  · refine su_iconst hC dX10_goes_9 ⟨by decide, by decide⟩ (?_ : SdS X 10 [(0, 20), (1, 0), (2, 0), (3, 0), (4, 0)] [0] _)
    exact SdS.weak (by decide) (S_10)
  · refine su_iconst hC dX10_goes_5 ⟨by decide, by decide⟩ (?_ : SdS X 6 [(0, 20), (1, 0), (2, 0), (3, 0), (4, 0)] [0] _)
    refine su_goto (tgt := 10) hC dX10_goes_6 rfl (?_ : SdS X 10 [(0, 20), (1, 0), (2, 0), (3, 0), (4, 0)] [0] _)
    exact SdS.weak (by decide) (S_10)
theorem wl_5_192 : Cond.fieldLink RX10 432 "NarrowRingsModel" "bestPay" "I" ∈ WALL := tb5 (List.mem_of_getElem? (i := 192) rfl) rfl
theorem wl_7_103 : Cond.methodLink RX10 396 yX10_takes ∈ WALL := tb7 (List.mem_of_getElem? (i := 103) rfl) rfl
theorem wl_7_105 : Cond.instanceMethod yX10_takes ∈ WALL := tb7 (List.mem_of_getElem? (i := 105) rfl) rfl
theorem wp_90 : Cond.selects RX10 yX10_takes yX10_takes ∈ WALL := tbS (List.mem_of_getElem? (i := 90) rfl)
theorem wl_7_106 : Cond.code yX10_takes cX10_takes 3 none ∈ WALL := tb7 (List.mem_of_getElem? (i := 106) rfl) rfl
theorem wl_7_110 : Cond.methodLink RX10 435 yX10_goes ∈ WALL := tb7 (List.mem_of_getElem? (i := 110) rfl) rfl
theorem wl_7_112 : Cond.instanceMethod yX10_goes ∈ WALL := tb7 (List.mem_of_getElem? (i := 112) rfl) rfl
theorem wp_91 : Cond.selects RX10 yX10_goes yX10_goes ∈ WALL := tbS (List.mem_of_getElem? (i := 91) rfl)
theorem wl_7_113 : Cond.code yX10_goes cX10_goes 11 (some .long) ∈ WALL := tb7 (List.mem_of_getElem? (i := 113) rfl) rfl
theorem wl_5_193 : Cond.fieldLink RX10 439 "NarrowRingsModel" "bestHours" "I" ∈ WALL := tb5 (List.mem_of_getElem? (i := 193) rfl) rfl
theorem wl_5_191 : Cond.fieldLink RX10 442 "NarrowRingsModel" "bestCut" "Z" ∈ WALL := tb5 (List.mem_of_getElem? (i := 191) rfl) rfl
theorem wl_5_194 : Cond.fieldLink RX10 446 "NarrowRingsModel" "bestMany" "I" ∈ WALL := tb5 (List.mem_of_getElem? (i := 194) rfl) rfl
theorem wl_5_195 : Cond.fieldLink RX10 28 "NarrowRingsModel" "bestGates" "[I" ∈ WALL := tb5 (List.mem_of_getElem? (i := 195) rfl) rfl
theorem wl_7_99 : Cond.methodLink RX10 400 yX10_canCut ∈ WALL := tb7 (List.mem_of_getElem? (i := 99) rfl) rfl
theorem wl_7_101 : Cond.instanceMethod yX10_canCut ∈ WALL := tb7 (List.mem_of_getElem? (i := 101) rfl) rfl
theorem wp_89 : Cond.selects RX10 yX10_canCut yX10_canCut ∈ WALL := tbS (List.mem_of_getElem? (i := 89) rfl)
theorem wl_7_102 : Cond.code yX10_canCut cX10_canCut 2 (some .boolean) ∈ WALL := tb7 (List.mem_of_getElem? (i := 102) rfl) rfl
theorem hd_X10_finds : yX10_finds.cls ≠ "java/lang/invoke/MethodHandle" ∧ yX10_finds.cls ≠ "java/lang/invoke/VarHandle" ∧ (parseMethodDescriptor yX10_finds.desc).map (fun d => d.parameters.length) = some 5 := by decide +kernel
set_option maxRecDepth 100000 in
set_option maxHeartbeats 4000000 in
theorem M_X10_finds (l : Launch) : MtS l yX10_finds (Cond.code yX10_finds cX10_finds 12 (some .boolean) :: WALL) { frames := 5, cells := 0, slots := 0, locals := 120 } [20, 0, 0, 0, 0, 0] (some 0) T_X10_finds := by
  refine MtS.mk (B := E_X10_finds) (by decide +kernel) (by decide) (fun _ _ _ hh => hh) ?_
  intro X Q e1 e2 e3 hC hN hT
  subst e1
  have hC : CF X cX10_finds RX10 WALL := hC
  have S_221 : SdS X 221 [(0, 20), (1, 0), (2, 0), (3, 0), (4, 0), (5, 0), (6, 0)] [0] (B_X10_finds_221 Q) := by
    unfold B_X10_finds_221
    exact su_zreturn hC hT dX10_finds_221
  have S_201 : ∀ (k9 : xK), SdS X 9 [(0, 20), (1, 0), (2, 0), (3, 0), (4, 0), (5, 0), (6, 0)] [] k9 → SdS X 201 [(0, 20), (1, 0), (2, 0), (3, 0), (4, 0), (5, 0), (6, 0)] [] (B_X10_finds_201 Q k9) := by
    intro k9 h9
    unfold B_X10_finds_201
    refine su_iinc (Γ' := [(0, 20), (1, 0), (2, 0), (3, 0), (4, 0), (5, 0), (6, 0)]) hC dX10_finds_201 (by decide) (by rw [e2]; decide) (by decide) (?_ : SdS X 204 [(0, 20), (1, 0), (2, 0), (3, 0), (4, 0), (5, 0), (6, 0)] [] _)
    refine su_goto (tgt := 9) hC dX10_finds_204 rfl (?_ : SdS X 9 [(0, 20), (1, 0), (2, 0), (3, 0), (4, 0), (5, 0), (6, 0)] [] _)
    exact SdS.weak (by decide) h9
  have S_172 : ∀ (k9 : xK), SdS X 9 [(0, 20), (1, 0), (2, 0), (3, 0), (4, 0), (5, 0), (6, 0)] [] k9 → SdS X 172 [(0, 20), (1, 0), (2, 0), (3, 0), (4, 0), (5, 0), (6, 0), (7, 1), (9, 0), (10, 0), (11, 0)] [] (L_X10_finds_172 Q k9) := by
    intro k9 h9
    unfold L_X10_finds_172
    refine SdS.loop (fun k172 h172 => ?_)
    refine su_iload hC dX10_finds_172 (by decide) (?_ : SdS X 174 [(0, 20), (1, 0), (2, 0), (3, 0), (4, 0), (5, 0), (6, 0), (7, 1), (9, 0), (10, 0), (11, 0)] [0] _)
    refine su_aload_n hC 20 dX10_finds_174 rfl (by decide) (by decide) (?_ : SdS X 175 [(0, 20), (1, 0), (2, 0), (3, 0), (4, 0), (5, 0), (6, 0), (7, 1), (9, 0), (10, 0), (11, 0)] [20, 0] _)
    refine su_getF hC (ci := 10) (j := 26) (C := RX10) (T := TX10) (N := 45) rfl rfl (by decide) in_X10 wl_5_190 rfl dX10_finds_175 (?_ : SdS X 178 [(0, 20), (1, 0), (2, 0), (3, 0), (4, 0), (5, 0), (6, 0), (7, 1), (9, 0), (10, 0), (11, 0)] [0, 0] _)
    refine su_icmp_ge (tgt := 201) hC dX10_finds_178 rfl (?_ : SdS X 201 [(0, 20), (1, 0), (2, 0), (3, 0), (4, 0), (5, 0), (6, 0), (7, 1), (9, 0), (10, 0), (11, 0)] [] _) (?_ : SdS X 181 [(0, 20), (1, 0), (2, 0), (3, 0), (4, 0), (5, 0), (6, 0), (7, 1), (9, 0), (10, 0), (11, 0)] [] _)
    · exact SdS.weak (by decide) (S_201 k9 h9)
    · refine su_aload_n hC 20 dX10_finds_181 rfl (by decide) (by decide) (?_ : SdS X 182 [(0, 20), (1, 0), (2, 0), (3, 0), (4, 0), (5, 0), (6, 0), (7, 1), (9, 0), (10, 0), (11, 0)] [20] _)
      refine su_getR hC (ci := 10) (j := 31) (C := RX10) (T := TX10) (N := 45) rfl rfl (by decide) in_X10 wl_5_195 rfl dX10_finds_182 (?_ : SdS X 185 [(0, 20), (1, 0), (2, 0), (3, 0), (4, 0), (5, 0), (6, 0), (7, 1), (9, 0), (10, 0), (11, 0)] [100] _)
      refine su_iload hC dX10_finds_185 (by decide) (?_ : SdS X 187 [(0, 20), (1, 0), (2, 0), (3, 0), (4, 0), (5, 0), (6, 0), (7, 1), (9, 0), (10, 0), (11, 0)] [0, 100] _)
      refine su_aload_n hC 20 dX10_finds_187 rfl (by decide) (by decide) (?_ : SdS X 188 [(0, 20), (1, 0), (2, 0), (3, 0), (4, 0), (5, 0), (6, 0), (7, 1), (9, 0), (10, 0), (11, 0)] [20, 0, 100] _)
      refine su_getR hC (ci := 10) (j := 25) (C := RX10) (T := TX10) (N := 45) rfl rfl (by decide) in_X10 wl_5_189 rfl dX10_finds_188 (?_ : SdS X 191 [(0, 20), (1, 0), (2, 0), (3, 0), (4, 0), (5, 0), (6, 0), (7, 1), (9, 0), (10, 0), (11, 0)] [100, 0, 100] _)
      refine su_iload hC dX10_finds_191 (by decide) (?_ : SdS X 193 [(0, 20), (1, 0), (2, 0), (3, 0), (4, 0), (5, 0), (6, 0), (7, 1), (9, 0), (10, 0), (11, 0)] [0, 100, 0, 100] _)
      refine su_iaload hC dX10_finds_193 (?_ : SdS X 194 [(0, 20), (1, 0), (2, 0), (3, 0), (4, 0), (5, 0), (6, 0), (7, 1), (9, 0), (10, 0), (11, 0)] [0, 0, 100] _)
      refine su_iastore hC dX10_finds_194 (?_ : SdS X 195 [(0, 20), (1, 0), (2, 0), (3, 0), (4, 0), (5, 0), (6, 0), (7, 1), (9, 0), (10, 0), (11, 0)] [] _)
      refine su_iinc (Γ' := [(0, 20), (1, 0), (2, 0), (3, 0), (4, 0), (5, 0), (6, 0), (7, 1), (9, 0), (10, 0), (11, 0)]) hC dX10_finds_195 (by decide) (by rw [e2]; decide) (by decide) (?_ : SdS X 198 [(0, 20), (1, 0), (2, 0), (3, 0), (4, 0), (5, 0), (6, 0), (7, 1), (9, 0), (10, 0), (11, 0)] [] _)
      refine su_goto (tgt := 172) hC dX10_finds_198 rfl (?_ : SdS X 172 [(0, 20), (1, 0), (2, 0), (3, 0), (4, 0), (5, 0), (6, 0), (7, 1), (9, 0), (10, 0), (11, 0)] [] _)
      exact SdS.weak (by decide) h172
  have S_158 : ∀ (k9 : xK), SdS X 9 [(0, 20), (1, 0), (2, 0), (3, 0), (4, 0), (5, 0), (6, 0)] [] k9 → SdS X 158 [(0, 20), (1, 0), (2, 0), (3, 0), (4, 0), (5, 0), (6, 0), (7, 1), (9, 0), (10, 0)] [0, 20] (B_X10_finds_158 Q k9) := by
    intro k9 h9
    unfold B_X10_finds_158
    refine su_putz hC (ci := 10) (j := 27) (C := RX10) (T := TX10) (N := 45) tyX10 tyX10_ok nmX10 rfl rfl (by decide) in_X10 rfl rfl rfl wl_5_191 rfl dX10_finds_158 (?_ : SdS X 161 [(0, 20), (1, 0), (2, 0), (3, 0), (4, 0), (5, 0), (6, 0), (7, 1), (9, 0), (10, 0)] [] _)
    refine su_aload_n hC 20 dX10_finds_161 rfl (by decide) (by decide) (?_ : SdS X 162 [(0, 20), (1, 0), (2, 0), (3, 0), (4, 0), (5, 0), (6, 0), (7, 1), (9, 0), (10, 0)] [20] _)
    refine su_aload_n hC 20 dX10_finds_162 rfl (by decide) (by decide) (?_ : SdS X 163 [(0, 20), (1, 0), (2, 0), (3, 0), (4, 0), (5, 0), (6, 0), (7, 1), (9, 0), (10, 0)] [20, 20] _)
    refine su_getF hC (ci := 10) (j := 26) (C := RX10) (T := TX10) (N := 45) rfl rfl (by decide) in_X10 wl_5_190 rfl dX10_finds_163 (?_ : SdS X 166 [(0, 20), (1, 0), (2, 0), (3, 0), (4, 0), (5, 0), (6, 0), (7, 1), (9, 0), (10, 0)] [0, 20] _)
    refine su_putF hC (ci := 10) (j := 30) (C := RX10) (T := TX10) (N := 45) tyX10 tyX10_ok nmX10 rfl rfl (by decide) in_X10 rfl rfl wl_5_194 rfl dX10_finds_166 (?_ : SdS X 169 [(0, 20), (1, 0), (2, 0), (3, 0), (4, 0), (5, 0), (6, 0), (7, 1), (9, 0), (10, 0)] [] _)
    refine su_iconst hC dX10_finds_169 ⟨by decide, by decide⟩ (?_ : SdS X 170 [(0, 20), (1, 0), (2, 0), (3, 0), (4, 0), (5, 0), (6, 0), (7, 1), (9, 0), (10, 0)] [0] _)
    refine su_istore (Γ' := [(0, 20), (1, 0), (2, 0), (3, 0), (4, 0), (5, 0), (6, 0), (7, 1), (9, 0), (10, 0), (11, 0)]) hC dX10_finds_170 (by rw [e2]; decide) (by decide) (?_ : SdS X 172 [(0, 20), (1, 0), (2, 0), (3, 0), (4, 0), (5, 0), (6, 0), (7, 1), (9, 0), (10, 0), (11, 0)] [] _)
    exact SdS.weak (by decide) (S_172 k9 h9)
  have S_134 : ∀ (k9 : xK), SdS X 9 [(0, 20), (1, 0), (2, 0), (3, 0), (4, 0), (5, 0), (6, 0)] [] k9 → SdS X 134 [(0, 20), (1, 0), (2, 0), (3, 0), (4, 0), (5, 0), (6, 0), (7, 1), (9, 0), (10, 0)] [] (B_X10_finds_134 Q k9) := by
    intro k9 h9
    unfold B_X10_finds_134
    refine su_aload_n hC 20 dX10_finds_134 rfl (by decide) (by decide) (?_ : SdS X 135 [(0, 20), (1, 0), (2, 0), (3, 0), (4, 0), (5, 0), (6, 0), (7, 1), (9, 0), (10, 0)] [20] _)
    refine su_iload hC dX10_finds_135 (by decide) (?_ : SdS X 137 [(0, 20), (1, 0), (2, 0), (3, 0), (4, 0), (5, 0), (6, 0), (7, 1), (9, 0), (10, 0)] [0, 20] _)
    refine su_putF hC (ci := 10) (j := 28) (C := RX10) (T := TX10) (N := 45) tyX10 tyX10_ok nmX10 rfl rfl (by decide) in_X10 rfl rfl wl_5_192 rfl dX10_finds_137 (?_ : SdS X 140 [(0, 20), (1, 0), (2, 0), (3, 0), (4, 0), (5, 0), (6, 0), (7, 1), (9, 0), (10, 0)] [] _)
    refine su_aload_n hC 20 dX10_finds_140 rfl (by decide) (by decide) (?_ : SdS X 141 [(0, 20), (1, 0), (2, 0), (3, 0), (4, 0), (5, 0), (6, 0), (7, 1), (9, 0), (10, 0)] [20] _)
    refine su_iload hC dX10_finds_141 (by decide) (?_ : SdS X 143 [(0, 20), (1, 0), (2, 0), (3, 0), (4, 0), (5, 0), (6, 0), (7, 1), (9, 0), (10, 0)] [0, 20] _)
    refine su_putF hC (ci := 10) (j := 29) (C := RX10) (T := TX10) (N := 45) tyX10 tyX10_ok nmX10 rfl rfl (by decide) in_X10 rfl rfl wl_5_193 rfl dX10_finds_143 (?_ : SdS X 146 [(0, 20), (1, 0), (2, 0), (3, 0), (4, 0), (5, 0), (6, 0), (7, 1), (9, 0), (10, 0)] [] _)
    refine su_aload_n hC 20 dX10_finds_146 rfl (by decide) (by decide) (?_ : SdS X 147 [(0, 20), (1, 0), (2, 0), (3, 0), (4, 0), (5, 0), (6, 0), (7, 1), (9, 0), (10, 0)] [20] _)
    refine su_iload hC dX10_finds_147 (by decide) (?_ : SdS X 149 [(0, 20), (1, 0), (2, 0), (3, 0), (4, 0), (5, 0), (6, 0), (7, 1), (9, 0), (10, 0)] [0, 20] _)
    refine su_iconst hC dX10_finds_149 ⟨by decide, by decide⟩ (?_ : SdS X 150 [(0, 20), (1, 0), (2, 0), (3, 0), (4, 0), (5, 0), (6, 0), (7, 1), (9, 0), (10, 0)] [0, 0, 20] _)
    refine su_icmp_ne (tgt := 157) hC dX10_finds_150 rfl (?_ : SdS X 157 [(0, 20), (1, 0), (2, 0), (3, 0), (4, 0), (5, 0), (6, 0), (7, 1), (9, 0), (10, 0)] [20] _) (?_ : SdS X 153 [(0, 20), (1, 0), (2, 0), (3, 0), (4, 0), (5, 0), (6, 0), (7, 1), (9, 0), (10, 0)] [20] _)
    · refine su_iconst hC dX10_finds_157 ⟨by decide, by decide⟩ (?_ : SdS X 158 [(0, 20), (1, 0), (2, 0), (3, 0), (4, 0), (5, 0), (6, 0), (7, 1), (9, 0), (10, 0)] [0, 20] _)
      exact SdS.weak (by decide) (S_158 k9 h9)
    · refine su_iconst hC dX10_finds_153 ⟨by decide, by decide⟩ (?_ : SdS X 154 [(0, 20), (1, 0), (2, 0), (3, 0), (4, 0), (5, 0), (6, 0), (7, 1), (9, 0), (10, 0)] [0, 20] _)
      refine su_goto (tgt := 158) hC dX10_finds_154 rfl (?_ : SdS X 158 [(0, 20), (1, 0), (2, 0), (3, 0), (4, 0), (5, 0), (6, 0), (7, 1), (9, 0), (10, 0)] [0, 20] _)
      exact SdS.weak (by decide) (S_158 k9 h9)
  have S_45 : ∀ (k9 : xK), SdS X 9 [(0, 20), (1, 0), (2, 0), (3, 0), (4, 0), (5, 0), (6, 0)] [] k9 → SdS X 45 [(0, 20), (1, 0), (2, 0), (3, 0), (4, 0), (5, 0), (6, 0)] [0, 0, 20] (B_X10_finds_45 Q k9) := by
    intro k9 h9
    unfold B_X10_finds_45
    refine su_inv0v (τ := []) (τr := [0, 0]) (ci := 10) (q := (RX10, TX10, 45)) hC WG (M_X10_takes _) rfl rfl rfl rfl  rfl rfl wl_7_103 wl_7_105 wp_90 wl_1_10 wl_7_106 hd_X10_takes (by rw [e3]; decide) (by decide) dX10_finds_45 (?_ : SdS X 48 [(0, 20), (1, 0), (2, 0), (3, 0), (4, 0), (5, 0), (6, 0)] [] _)
    refine su_aload_n hC 20 dX10_finds_48 rfl (by decide) (by decide) (?_ : SdS X 49 [(0, 20), (1, 0), (2, 0), (3, 0), (4, 0), (5, 0), (6, 0)] [20] _)
    refine su_iload_n hC dX10_finds_49 rfl (by decide) (?_ : SdS X 50 [(0, 20), (1, 0), (2, 0), (3, 0), (4, 0), (5, 0), (6, 0)] [0, 20] _)
    refine su_iload_n hC dX10_finds_50 rfl (by decide) (?_ : SdS X 51 [(0, 20), (1, 0), (2, 0), (3, 0), (4, 0), (5, 0), (6, 0)] [0, 0, 20] _)
    refine su_iload hC dX10_finds_51 (by decide) (?_ : SdS X 53 [(0, 20), (1, 0), (2, 0), (3, 0), (4, 0), (5, 0), (6, 0)] [0, 0, 0, 20] _)
    refine su_iload hC dX10_finds_53 (by decide) (?_ : SdS X 55 [(0, 20), (1, 0), (2, 0), (3, 0), (4, 0), (5, 0), (6, 0)] [0, 0, 0, 0, 20] _)
    refine su_inv0 (τ := []) (τr := [0, 0, 0, 0]) (ci := 10) (q := (RX10, TX10, 45)) hC WG (M_X10_goes _) rfl rfl rfl rfl  rfl rfl wl_7_110 wl_7_112 wp_91 wl_1_10 wl_7_113 hd_X10_goes (by rw [e3]; decide) (by decide) dX10_finds_55 (?_ : SdS X 58 [(0, 20), (1, 0), (2, 0), (3, 0), (4, 0), (5, 0), (6, 0)] [1] _)
    refine su_lstore (Γ' := [(0, 20), (1, 0), (2, 0), (3, 0), (4, 0), (5, 0), (6, 0), (7, 1)]) hC dX10_finds_58 (by rw [e2]; decide) (by decide) (?_ : SdS X 60 [(0, 20), (1, 0), (2, 0), (3, 0), (4, 0), (5, 0), (6, 0), (7, 1)] [] _)
    refine su_lload hC dX10_finds_60 (by decide) (?_ : SdS X 62 [(0, 20), (1, 0), (2, 0), (3, 0), (4, 0), (5, 0), (6, 0), (7, 1)] [1] _)
    refine su_ldc2 hC wl_7_130 dX10_finds_62 ⟨by decide, by decide⟩ (?_ : SdS X 65 [(0, 20), (1, 0), (2, 0), (3, 0), (4, 0), (5, 0), (6, 0), (7, 1)] [1, 1] _)
    refine su_lcmp hC dX10_finds_65 (?_ : SdS X 66 [(0, 20), (1, 0), (2, 0), (3, 0), (4, 0), (5, 0), (6, 0), (7, 1)] [0] _)
    refine su_if_lt (tgt := 72) hC dX10_finds_66 rfl (?_ : SdS X 72 [(0, 20), (1, 0), (2, 0), (3, 0), (4, 0), (5, 0), (6, 0), (7, 1)] [] _) (?_ : SdS X 69 [(0, 20), (1, 0), (2, 0), (3, 0), (4, 0), (5, 0), (6, 0), (7, 1)] [] _)
    · refine su_lload hC dX10_finds_72 (by decide) (?_ : SdS X 74 [(0, 20), (1, 0), (2, 0), (3, 0), (4, 0), (5, 0), (6, 0), (7, 1)] [1] _)
      refine su_ldc2 hC wl_7_163 dX10_finds_74 ⟨by decide, by decide⟩ (?_ : SdS X 77 [(0, 20), (1, 0), (2, 0), (3, 0), (4, 0), (5, 0), (6, 0), (7, 1)] [1, 1] _)
      refine su_ldiv hC dX10_finds_77 (?_ : SdS X 78 [(0, 20), (1, 0), (2, 0), (3, 0), (4, 0), (5, 0), (6, 0), (7, 1)] [1] _)
      refine su_l2i hC dX10_finds_78 (?_ : SdS X 79 [(0, 20), (1, 0), (2, 0), (3, 0), (4, 0), (5, 0), (6, 0), (7, 1)] [0] _)
      refine su_aload_n hC 20 dX10_finds_79 rfl (by decide) (by decide) (?_ : SdS X 80 [(0, 20), (1, 0), (2, 0), (3, 0), (4, 0), (5, 0), (6, 0), (7, 1)] [20, 0] _)
      refine su_getF hC (ci := 10) (j := 23) (C := RX10) (T := TX10) (N := 45) rfl rfl (by decide) in_X10 wl_5_187 rfl dX10_finds_80 (?_ : SdS X 83 [(0, 20), (1, 0), (2, 0), (3, 0), (4, 0), (5, 0), (6, 0), (7, 1)] [0, 0] _)
      refine su_imul hC dX10_finds_83 (?_ : SdS X 84 [(0, 20), (1, 0), (2, 0), (3, 0), (4, 0), (5, 0), (6, 0), (7, 1)] [0] _)
      refine su_istore (Γ' := [(0, 20), (1, 0), (2, 0), (3, 0), (4, 0), (5, 0), (6, 0), (7, 1), (9, 0)]) hC dX10_finds_84 (by rw [e2]; decide) (by decide) (?_ : SdS X 86 [(0, 20), (1, 0), (2, 0), (3, 0), (4, 0), (5, 0), (6, 0), (7, 1), (9, 0)] [] _)
      refine su_lload hC dX10_finds_86 (by decide) (?_ : SdS X 88 [(0, 20), (1, 0), (2, 0), (3, 0), (4, 0), (5, 0), (6, 0), (7, 1), (9, 0)] [1] _)
      refine su_ldc2 hC wl_7_163 dX10_finds_88 ⟨by decide, by decide⟩ (?_ : SdS X 91 [(0, 20), (1, 0), (2, 0), (3, 0), (4, 0), (5, 0), (6, 0), (7, 1), (9, 0)] [1, 1] _)
      refine su_lrem hC dX10_finds_91 (?_ : SdS X 92 [(0, 20), (1, 0), (2, 0), (3, 0), (4, 0), (5, 0), (6, 0), (7, 1), (9, 0)] [1] _)
      refine su_l2i hC dX10_finds_92 (?_ : SdS X 93 [(0, 20), (1, 0), (2, 0), (3, 0), (4, 0), (5, 0), (6, 0), (7, 1), (9, 0)] [0] _)
      refine su_istore (Γ' := [(0, 20), (1, 0), (2, 0), (3, 0), (4, 0), (5, 0), (6, 0), (7, 1), (9, 0), (10, 0)]) hC dX10_finds_93 (by rw [e2]; decide) (by decide) (?_ : SdS X 95 [(0, 20), (1, 0), (2, 0), (3, 0), (4, 0), (5, 0), (6, 0), (7, 1), (9, 0), (10, 0)] [] _)
      refine su_aload_n hC 20 dX10_finds_95 rfl (by decide) (by decide) (?_ : SdS X 96 [(0, 20), (1, 0), (2, 0), (3, 0), (4, 0), (5, 0), (6, 0), (7, 1), (9, 0), (10, 0)] [20] _)
      refine su_getF hC (ci := 10) (j := 28) (C := RX10) (T := TX10) (N := 45) rfl rfl (by decide) in_X10 wl_5_192 rfl dX10_finds_96 (?_ : SdS X 99 [(0, 20), (1, 0), (2, 0), (3, 0), (4, 0), (5, 0), (6, 0), (7, 1), (9, 0), (10, 0)] [0] _)
      refine su_bipush hC dX10_finds_99 (by decide) (?_ : SdS X 101 [(0, 20), (1, 0), (2, 0), (3, 0), (4, 0), (5, 0), (6, 0), (7, 1), (9, 0), (10, 0)] [0, 0] _)
      refine su_icmp_eq (tgt := 134) hC dX10_finds_101 rfl (?_ : SdS X 134 [(0, 20), (1, 0), (2, 0), (3, 0), (4, 0), (5, 0), (6, 0), (7, 1), (9, 0), (10, 0)] [] _) (?_ : SdS X 104 [(0, 20), (1, 0), (2, 0), (3, 0), (4, 0), (5, 0), (6, 0), (7, 1), (9, 0), (10, 0)] [] _)
      · exact SdS.weak (by decide) (S_134 k9 h9)
      · refine su_iload hC dX10_finds_104 (by decide) (?_ : SdS X 106 [(0, 20), (1, 0), (2, 0), (3, 0), (4, 0), (5, 0), (6, 0), (7, 1), (9, 0), (10, 0)] [0] _)
        refine su_aload_n hC 20 dX10_finds_106 rfl (by decide) (by decide) (?_ : SdS X 107 [(0, 20), (1, 0), (2, 0), (3, 0), (4, 0), (5, 0), (6, 0), (7, 1), (9, 0), (10, 0)] [20, 0] _)
        refine su_getF hC (ci := 10) (j := 28) (C := RX10) (T := TX10) (N := 45) rfl rfl (by decide) in_X10 wl_5_192 rfl dX10_finds_107 (?_ : SdS X 110 [(0, 20), (1, 0), (2, 0), (3, 0), (4, 0), (5, 0), (6, 0), (7, 1), (9, 0), (10, 0)] [0, 0] _)
        refine su_icmp_gt (tgt := 201) hC dX10_finds_110 rfl (?_ : SdS X 201 [(0, 20), (1, 0), (2, 0), (3, 0), (4, 0), (5, 0), (6, 0), (7, 1), (9, 0), (10, 0)] [] _) (?_ : SdS X 113 [(0, 20), (1, 0), (2, 0), (3, 0), (4, 0), (5, 0), (6, 0), (7, 1), (9, 0), (10, 0)] [] _)
        · exact SdS.weak (by decide) (S_201 k9 h9)
        · refine su_iload hC dX10_finds_113 (by decide) (?_ : SdS X 115 [(0, 20), (1, 0), (2, 0), (3, 0), (4, 0), (5, 0), (6, 0), (7, 1), (9, 0), (10, 0)] [0] _)
          refine su_aload_n hC 20 dX10_finds_115 rfl (by decide) (by decide) (?_ : SdS X 116 [(0, 20), (1, 0), (2, 0), (3, 0), (4, 0), (5, 0), (6, 0), (7, 1), (9, 0), (10, 0)] [20, 0] _)
          refine su_getF hC (ci := 10) (j := 28) (C := RX10) (T := TX10) (N := 45) rfl rfl (by decide) in_X10 wl_5_192 rfl dX10_finds_116 (?_ : SdS X 119 [(0, 20), (1, 0), (2, 0), (3, 0), (4, 0), (5, 0), (6, 0), (7, 1), (9, 0), (10, 0)] [0, 0] _)
          refine su_icmp_ne (tgt := 134) hC dX10_finds_119 rfl (?_ : SdS X 134 [(0, 20), (1, 0), (2, 0), (3, 0), (4, 0), (5, 0), (6, 0), (7, 1), (9, 0), (10, 0)] [] _) (?_ : SdS X 122 [(0, 20), (1, 0), (2, 0), (3, 0), (4, 0), (5, 0), (6, 0), (7, 1), (9, 0), (10, 0)] [] _)
          · exact SdS.weak (by decide) (S_134 k9 h9)
          · refine su_iload hC dX10_finds_122 (by decide) (?_ : SdS X 124 [(0, 20), (1, 0), (2, 0), (3, 0), (4, 0), (5, 0), (6, 0), (7, 1), (9, 0), (10, 0)] [0] _)
            refine su_aload_n hC 20 dX10_finds_124 rfl (by decide) (by decide) (?_ : SdS X 125 [(0, 20), (1, 0), (2, 0), (3, 0), (4, 0), (5, 0), (6, 0), (7, 1), (9, 0), (10, 0)] [20, 0] _)
            refine su_getF hC (ci := 10) (j := 29) (C := RX10) (T := TX10) (N := 45) rfl rfl (by decide) in_X10 wl_5_193 rfl dX10_finds_125 (?_ : SdS X 128 [(0, 20), (1, 0), (2, 0), (3, 0), (4, 0), (5, 0), (6, 0), (7, 1), (9, 0), (10, 0)] [0, 0] _)
            refine su_icmp_lt (tgt := 134) hC dX10_finds_128 rfl (?_ : SdS X 134 [(0, 20), (1, 0), (2, 0), (3, 0), (4, 0), (5, 0), (6, 0), (7, 1), (9, 0), (10, 0)] [] _) (?_ : SdS X 131 [(0, 20), (1, 0), (2, 0), (3, 0), (4, 0), (5, 0), (6, 0), (7, 1), (9, 0), (10, 0)] [] _)
            · exact SdS.weak (by decide) (S_134 k9 h9)
            · refine su_goto (tgt := 201) hC dX10_finds_131 rfl (?_ : SdS X 201 [(0, 20), (1, 0), (2, 0), (3, 0), (4, 0), (5, 0), (6, 0), (7, 1), (9, 0), (10, 0)] [] _)
              exact SdS.weak (by decide) (S_201 k9 h9)
    · refine su_goto (tgt := 201) hC dX10_finds_69 rfl (?_ : SdS X 201 [(0, 20), (1, 0), (2, 0), (3, 0), (4, 0), (5, 0), (6, 0), (7, 1)] [] _)
      exact SdS.weak (by decide) (S_201 k9 h9)
  have S_32 : ∀ (k9 : xK), SdS X 9 [(0, 20), (1, 0), (2, 0), (3, 0), (4, 0), (5, 0), (6, 0)] [] k9 → SdS X 32 [(0, 20), (1, 0), (2, 0), (3, 0), (4, 0), (5, 0), (6, 0)] [] (B_X10_finds_32 Q k9) := by
    intro k9 h9
    unfold B_X10_finds_32
    refine su_aload_n hC 20 dX10_finds_32 rfl (by decide) (by decide) (?_ : SdS X 33 [(0, 20), (1, 0), (2, 0), (3, 0), (4, 0), (5, 0), (6, 0)] [20] _)
    refine su_iload_n hC dX10_finds_33 rfl (by decide) (?_ : SdS X 34 [(0, 20), (1, 0), (2, 0), (3, 0), (4, 0), (5, 0), (6, 0)] [0, 20] _)
    refine su_iload hC dX10_finds_34 (by decide) (?_ : SdS X 36 [(0, 20), (1, 0), (2, 0), (3, 0), (4, 0), (5, 0), (6, 0)] [0, 0, 20] _)
    refine su_iconst hC dX10_finds_36 ⟨by decide, by decide⟩ (?_ : SdS X 37 [(0, 20), (1, 0), (2, 0), (3, 0), (4, 0), (5, 0), (6, 0)] [0, 0, 0, 20] _)
    refine su_icmp_ne (tgt := 44) hC dX10_finds_37 rfl (?_ : SdS X 44 [(0, 20), (1, 0), (2, 0), (3, 0), (4, 0), (5, 0), (6, 0)] [0, 20] _) (?_ : SdS X 40 [(0, 20), (1, 0), (2, 0), (3, 0), (4, 0), (5, 0), (6, 0)] [0, 20] _)
    · refine su_iconst hC dX10_finds_44 ⟨by decide, by decide⟩ (?_ : SdS X 45 [(0, 20), (1, 0), (2, 0), (3, 0), (4, 0), (5, 0), (6, 0)] [0, 0, 20] _)
      exact SdS.weak (by decide) (S_45 k9 h9)
    · refine su_iconst hC dX10_finds_40 ⟨by decide, by decide⟩ (?_ : SdS X 41 [(0, 20), (1, 0), (2, 0), (3, 0), (4, 0), (5, 0), (6, 0)] [0, 0, 20] _)
      refine su_goto (tgt := 45) hC dX10_finds_41 rfl (?_ : SdS X 45 [(0, 20), (1, 0), (2, 0), (3, 0), (4, 0), (5, 0), (6, 0)] [0, 0, 20] _)
      exact SdS.weak (by decide) (S_45 k9 h9)
  have S_9 : SdS X 9 [(0, 20), (1, 0), (2, 0), (3, 0), (4, 0), (5, 0), (6, 0)] [] (L_X10_finds_9 Q) := by
    unfold L_X10_finds_9
    refine SdS.loop (fun k9 h9 => ?_)
    refine su_iload hC dX10_finds_9 (by decide) (?_ : SdS X 11 [(0, 20), (1, 0), (2, 0), (3, 0), (4, 0), (5, 0), (6, 0)] [0] _)
    refine su_iconst hC dX10_finds_11 ⟨by decide, by decide⟩ (?_ : SdS X 12 [(0, 20), (1, 0), (2, 0), (3, 0), (4, 0), (5, 0), (6, 0)] [0, 0] _)
    refine su_icmp_ge (tgt := 207) hC dX10_finds_12 rfl (?_ : SdS X 207 [(0, 20), (1, 0), (2, 0), (3, 0), (4, 0), (5, 0), (6, 0)] [] _) (?_ : SdS X 15 [(0, 20), (1, 0), (2, 0), (3, 0), (4, 0), (5, 0), (6, 0)] [] _)
    · refine su_aload_n hC 20 dX10_finds_207 rfl (by decide) (by decide) (?_ : SdS X 208 [(0, 20), (1, 0), (2, 0), (3, 0), (4, 0), (5, 0), (6, 0)] [20] _)
      refine su_getF hC (ci := 10) (j := 28) (C := RX10) (T := TX10) (N := 45) rfl rfl (by decide) in_X10 wl_5_192 rfl dX10_finds_208 (?_ : SdS X 211 [(0, 20), (1, 0), (2, 0), (3, 0), (4, 0), (5, 0), (6, 0)] [0] _)
      refine su_bipush hC dX10_finds_211 (by decide) (?_ : SdS X 213 [(0, 20), (1, 0), (2, 0), (3, 0), (4, 0), (5, 0), (6, 0)] [0, 0] _)
      refine su_icmp_eq (tgt := 220) hC dX10_finds_213 rfl (?_ : SdS X 220 [(0, 20), (1, 0), (2, 0), (3, 0), (4, 0), (5, 0), (6, 0)] [] _) (?_ : SdS X 216 [(0, 20), (1, 0), (2, 0), (3, 0), (4, 0), (5, 0), (6, 0)] [] _)
      · refine su_iconst hC dX10_finds_220 ⟨by decide, by decide⟩ (?_ : SdS X 221 [(0, 20), (1, 0), (2, 0), (3, 0), (4, 0), (5, 0), (6, 0)] [0] _)
        exact SdS.weak (by decide) (S_221)
      · refine su_iconst hC dX10_finds_216 ⟨by decide, by decide⟩ (?_ : SdS X 217 [(0, 20), (1, 0), (2, 0), (3, 0), (4, 0), (5, 0), (6, 0)] [0] _)
        refine su_goto (tgt := 221) hC dX10_finds_217 rfl (?_ : SdS X 221 [(0, 20), (1, 0), (2, 0), (3, 0), (4, 0), (5, 0), (6, 0)] [0] _)
        exact SdS.weak (by decide) (S_221)
    · refine su_iload hC dX10_finds_15 (by decide) (?_ : SdS X 17 [(0, 20), (1, 0), (2, 0), (3, 0), (4, 0), (5, 0), (6, 0)] [0] _)
      refine su_iconst hC dX10_finds_17 ⟨by decide, by decide⟩ (?_ : SdS X 18 [(0, 20), (1, 0), (2, 0), (3, 0), (4, 0), (5, 0), (6, 0)] [0, 0] _)
      refine su_icmp_ne (tgt := 32) hC dX10_finds_18 rfl (?_ : SdS X 32 [(0, 20), (1, 0), (2, 0), (3, 0), (4, 0), (5, 0), (6, 0)] [] _) (?_ : SdS X 21 [(0, 20), (1, 0), (2, 0), (3, 0), (4, 0), (5, 0), (6, 0)] [] _)
      · exact SdS.weak (by decide) (S_32 k9 h9)
      · refine su_aload_n hC 20 dX10_finds_21 rfl (by decide) (by decide) (?_ : SdS X 22 [(0, 20), (1, 0), (2, 0), (3, 0), (4, 0), (5, 0), (6, 0)] [20] _)
        refine su_iload_n hC dX10_finds_22 rfl (by decide) (?_ : SdS X 23 [(0, 20), (1, 0), (2, 0), (3, 0), (4, 0), (5, 0), (6, 0)] [0, 20] _)
        refine su_inv0 (τ := []) (τr := [0]) (ci := 10) (q := (RX10, TX10, 45)) hC WG (M_X10_canCut _) rfl rfl rfl rfl  rfl rfl wl_7_99 wl_7_101 wp_89 wl_1_10 wl_7_102 hd_X10_canCut (by rw [e3]; decide) (by decide) dX10_finds_23 (?_ : SdS X 26 [(0, 20), (1, 0), (2, 0), (3, 0), (4, 0), (5, 0), (6, 0)] [0] _)
        refine su_if_ne (tgt := 32) hC dX10_finds_26 rfl (?_ : SdS X 32 [(0, 20), (1, 0), (2, 0), (3, 0), (4, 0), (5, 0), (6, 0)] [] _) (?_ : SdS X 29 [(0, 20), (1, 0), (2, 0), (3, 0), (4, 0), (5, 0), (6, 0)] [] _)
        · exact SdS.weak (by decide) (S_32 k9 h9)
        · refine su_goto (tgt := 201) hC dX10_finds_29 rfl (?_ : SdS X 201 [(0, 20), (1, 0), (2, 0), (3, 0), (4, 0), (5, 0), (6, 0)] [] _)
          exact SdS.weak (by decide) (S_201 k9 h9)
  refine (?_ : SdS X 0 [(0, 20), (1, 0), (2, 0), (3, 0), (4, 0), (5, 0)] [] (E_X10_finds Q))
  unfold E_X10_finds
  refine su_aload_n hC 20 dX10_finds_0 rfl (by decide) (by decide) (?_ : SdS X 1 [(0, 20), (1, 0), (2, 0), (3, 0), (4, 0), (5, 0)] [20] _)
  refine su_bipush hC dX10_finds_1 (by decide) (?_ : SdS X 3 [(0, 20), (1, 0), (2, 0), (3, 0), (4, 0), (5, 0)] [0, 20] _)
  refine su_putF hC (ci := 10) (j := 28) (C := RX10) (T := TX10) (N := 45) tyX10 tyX10_ok nmX10 rfl rfl (by decide) in_X10 rfl rfl wl_5_192 rfl dX10_finds_3 (?_ : SdS X 6 [(0, 20), (1, 0), (2, 0), (3, 0), (4, 0), (5, 0)] [] _)
  refine su_iconst hC dX10_finds_6 ⟨by decide, by decide⟩ (?_ : SdS X 7 [(0, 20), (1, 0), (2, 0), (3, 0), (4, 0), (5, 0)] [0] _)
  refine su_istore (Γ' := [(0, 20), (1, 0), (2, 0), (3, 0), (4, 0), (5, 0), (6, 0)]) hC dX10_finds_7 (by rw [e2]; decide) (by decide) (?_ : SdS X 9 [(0, 20), (1, 0), (2, 0), (3, 0), (4, 0), (5, 0), (6, 0)] [] _)
  exact SdS.weak (by decide) (S_9)
theorem wl_7_95 : Cond.methodLink RX10 453 yX10_finds ∈ WALL := tb7 (List.mem_of_getElem? (i := 95) rfl) rfl
theorem wl_7_97 : Cond.instanceMethod yX10_finds ∈ WALL := tb7 (List.mem_of_getElem? (i := 97) rfl) rfl
theorem wp_88 : Cond.selects RX10 yX10_finds yX10_finds ∈ WALL := tbS (List.mem_of_getElem? (i := 88) rfl)
theorem wl_7_98 : Cond.code yX10_finds cX10_finds 12 (some .boolean) ∈ WALL := tb7 (List.mem_of_getElem? (i := 98) rfl) rfl
theorem hd_X10_findsOrder : yX10_findsOrder.cls ≠ "java/lang/invoke/MethodHandle" ∧ yX10_findsOrder.cls ≠ "java/lang/invoke/VarHandle" ∧ (parseMethodDescriptor yX10_findsOrder.desc).map (fun d => d.parameters.length) = some 1 := by decide +kernel
set_option maxRecDepth 100000 in
set_option maxHeartbeats 4000000 in
theorem M_X10_findsOrder (l : Launch) : MtS l yX10_findsOrder (Cond.code yX10_findsOrder cX10_findsOrder 2 (some .boolean) :: WALL) { frames := 6, cells := 0, slots := 0, locals := 151 } [20, 0] (some 0) T_X10_findsOrder := by
  refine MtS.mk (B := E_X10_findsOrder) (by decide +kernel) (by decide) (fun _ _ _ hh => hh) ?_
  intro X Q e1 e2 e3 hC hN hT
  subst e1
  have hC : CF X cX10_findsOrder RX10 WALL := hC
  refine (?_ : SdS X 0 [(0, 20), (1, 0)] [] (E_X10_findsOrder Q))
  unfold E_X10_findsOrder
  refine su_aload_n hC 20 dX10_findsOrder_0 rfl (by decide) (by decide) (?_ : SdS X 1 [(0, 20), (1, 0)] [20] _)
  refine su_aload_n hC 20 dX10_findsOrder_1 rfl (by decide) (by decide) (?_ : SdS X 2 [(0, 20), (1, 0)] [20, 20] _)
  refine su_getR hC (ci := 10) (j := 3) (C := RX10) (T := TX10) (N := 45) rfl rfl (by decide) in_X10 wl_5_167 rfl dX10_findsOrder_2 (?_ : SdS X 5 [(0, 20), (1, 0)] [19, 20] _)
  refine su_getRN hC (ci := 9) (j := 20) (C := RX9) (T := TX9) (N := 28) (host := "NarrowRingsModel") rfl rfl (by decide) in_X9 (by decide) rfl dX10_findsOrder_5 (?_ : SdS X 8 [(0, 20), (1, 0)] [100, 20] _)
  refine su_iload_n hC dX10_findsOrder_8 rfl (by decide) (?_ : SdS X 9 [(0, 20), (1, 0)] [0, 100, 20] _)
  refine su_iaload hC dX10_findsOrder_9 (?_ : SdS X 10 [(0, 20), (1, 0)] [0, 20] _)
  refine su_aload_n hC 20 dX10_findsOrder_10 rfl (by decide) (by decide) (?_ : SdS X 11 [(0, 20), (1, 0)] [20, 0, 20] _)
  refine su_getR hC (ci := 10) (j := 3) (C := RX10) (T := TX10) (N := 45) rfl rfl (by decide) in_X10 wl_5_167 rfl dX10_findsOrder_11 (?_ : SdS X 14 [(0, 20), (1, 0)] [19, 0, 20] _)
  refine su_getRN hC (ci := 9) (j := 21) (C := RX9) (T := TX9) (N := 28) (host := "NarrowRingsModel") rfl rfl (by decide) in_X9 (by decide) rfl dX10_findsOrder_14 (?_ : SdS X 17 [(0, 20), (1, 0)] [100, 0, 20] _)
  refine su_iload_n hC dX10_findsOrder_17 rfl (by decide) (?_ : SdS X 18 [(0, 20), (1, 0)] [0, 100, 0, 20] _)
  refine su_iaload hC dX10_findsOrder_18 (?_ : SdS X 19 [(0, 20), (1, 0)] [0, 0, 20] _)
  refine su_aload_n hC 20 dX10_findsOrder_19 rfl (by decide) (by decide) (?_ : SdS X 20 [(0, 20), (1, 0)] [20, 0, 0, 20] _)
  refine su_getR hC (ci := 10) (j := 3) (C := RX10) (T := TX10) (N := 45) rfl rfl (by decide) in_X10 wl_5_167 rfl dX10_findsOrder_20 (?_ : SdS X 23 [(0, 20), (1, 0)] [19, 0, 0, 20] _)
  refine su_getRN hC (ci := 9) (j := 22) (C := RX9) (T := TX9) (N := 28) (host := "NarrowRingsModel") rfl rfl (by decide) in_X9 (by decide) rfl dX10_findsOrder_23 (?_ : SdS X 26 [(0, 20), (1, 0)] [100, 0, 0, 20] _)
  refine su_iload_n hC dX10_findsOrder_26 rfl (by decide) (?_ : SdS X 27 [(0, 20), (1, 0)] [0, 100, 0, 0, 20] _)
  refine su_iaload hC dX10_findsOrder_27 (?_ : SdS X 28 [(0, 20), (1, 0)] [0, 0, 0, 20] _)
  refine su_aload_n hC 20 dX10_findsOrder_28 rfl (by decide) (by decide) (?_ : SdS X 29 [(0, 20), (1, 0)] [20, 0, 0, 0, 20] _)
  refine su_getR hC (ci := 10) (j := 3) (C := RX10) (T := TX10) (N := 45) rfl rfl (by decide) in_X10 wl_5_167 rfl dX10_findsOrder_29 (?_ : SdS X 32 [(0, 20), (1, 0)] [19, 0, 0, 0, 20] _)
  refine su_getRN hC (ci := 9) (j := 23) (C := RX9) (T := TX9) (N := 28) (host := "NarrowRingsModel") rfl rfl (by decide) in_X9 (by decide) rfl dX10_findsOrder_32 (?_ : SdS X 35 [(0, 20), (1, 0)] [100, 0, 0, 0, 20] _)
  refine su_iload_n hC dX10_findsOrder_35 rfl (by decide) (?_ : SdS X 36 [(0, 20), (1, 0)] [0, 100, 0, 0, 0, 20] _)
  refine su_iaload hC dX10_findsOrder_36 (?_ : SdS X 37 [(0, 20), (1, 0)] [0, 0, 0, 0, 20] _)
  refine su_aload_n hC 20 dX10_findsOrder_37 rfl (by decide) (by decide) (?_ : SdS X 38 [(0, 20), (1, 0)] [20, 0, 0, 0, 0, 20] _)
  refine su_getR hC (ci := 10) (j := 3) (C := RX10) (T := TX10) (N := 45) rfl rfl (by decide) in_X10 wl_5_167 rfl dX10_findsOrder_38 (?_ : SdS X 41 [(0, 20), (1, 0)] [19, 0, 0, 0, 0, 20] _)
  refine su_getRN hC (ci := 9) (j := 24) (C := RX9) (T := TX9) (N := 28) (host := "NarrowRingsModel") rfl rfl (by decide) in_X9 (by decide) rfl dX10_findsOrder_41 (?_ : SdS X 44 [(0, 20), (1, 0)] [100, 0, 0, 0, 0, 20] _)
  refine su_iload_n hC dX10_findsOrder_44 rfl (by decide) (?_ : SdS X 45 [(0, 20), (1, 0)] [0, 100, 0, 0, 0, 0, 20] _)
  refine su_iaload hC dX10_findsOrder_45 (?_ : SdS X 46 [(0, 20), (1, 0)] [0, 0, 0, 0, 0, 20] _)
  refine su_inv0 (τ := []) (τr := [0, 0, 0, 0, 0]) (ci := 10) (q := (RX10, TX10, 45)) hC WG (M_X10_finds _) rfl rfl rfl rfl  rfl rfl wl_7_95 wl_7_97 wp_88 wl_1_10 wl_7_98 hd_X10_finds (by rw [e3]; decide) (by decide) dX10_findsOrder_46 (?_ : SdS X 49 [(0, 20), (1, 0)] [0] _)
  exact su_zreturn hC hT dX10_findsOrder_49
theorem wl_7_91 : Cond.methodLink RX10 459 yX10_findsOrder ∈ WALL := tb7 (List.mem_of_getElem? (i := 91) rfl) rfl
theorem wl_7_93 : Cond.instanceMethod yX10_findsOrder ∈ WALL := tb7 (List.mem_of_getElem? (i := 93) rfl) rfl
theorem wp_87 : Cond.selects RX10 yX10_findsOrder yX10_findsOrder ∈ WALL := tbS (List.mem_of_getElem? (i := 87) rfl)
theorem wl_7_94 : Cond.code yX10_findsOrder cX10_findsOrder 2 (some .boolean) ∈ WALL := tb7 (List.mem_of_getElem? (i := 94) rfl) rfl
theorem hd_X10_allNow : yX10_allNow.cls ≠ "java/lang/invoke/MethodHandle" ∧ yX10_allNow.cls ≠ "java/lang/invoke/VarHandle" ∧ (parseMethodDescriptor yX10_allNow.desc).map (fun d => d.parameters.length) = some 0 := by decide +kernel
set_option maxRecDepth 100000 in
set_option maxHeartbeats 4000000 in
theorem M_X10_allNow (l : Launch) : MtS l yX10_allNow (Cond.code yX10_allNow cX10_allNow 3 (some .int) :: WALL) { frames := 7, cells := 0, slots := 0, locals := 172 } [20] (some 0) T_X10_allNow := by
  refine MtS.mk (B := E_X10_allNow) (by decide +kernel) (by decide) (fun _ _ _ hh => hh) ?_
  intro X Q e1 e2 e3 hC hN hT
  subst e1
  have hC : CF X cX10_allNow RX10 WALL := hC
  have S_34 : ∀ (k4 : xK), SdS X 4 [(0, 20), (1, 0), (2, 0)] [] k4 → SdS X 34 [(0, 20), (1, 0), (2, 0)] [0, 0] (B_X10_allNow_34 Q k4) := by
    intro k4 h4
    unfold B_X10_allNow_34
    refine su_iadd hC dX10_allNow_34 (?_ : SdS X 35 [(0, 20), (1, 0), (2, 0)] [0] _)
    refine su_istore_n (Γ' := [(0, 20), (1, 0), (2, 0)]) hC dX10_allNow_35 rfl (by rw [e2]; decide) (by decide) (?_ : SdS X 36 [(0, 20), (1, 0), (2, 0)] [] _)
    refine su_iinc (Γ' := [(0, 20), (1, 0), (2, 0)]) hC dX10_allNow_36 (by decide) (by rw [e2]; decide) (by decide) (?_ : SdS X 39 [(0, 20), (1, 0), (2, 0)] [] _)
    refine su_goto (tgt := 4) hC dX10_allNow_39 rfl (?_ : SdS X 4 [(0, 20), (1, 0), (2, 0)] [] _)
    exact SdS.weak (by decide) h4
  have S_4 : SdS X 4 [(0, 20), (1, 0), (2, 0)] [] (L_X10_allNow_4 Q) := by
    unfold L_X10_allNow_4
    refine SdS.loop (fun k4 h4 => ?_)
    refine su_iload_n hC dX10_allNow_4 rfl (by decide) (?_ : SdS X 5 [(0, 20), (1, 0), (2, 0)] [0] _)
    refine su_aload_n hC 20 dX10_allNow_5 rfl (by decide) (by decide) (?_ : SdS X 6 [(0, 20), (1, 0), (2, 0)] [20, 0] _)
    refine su_getR hC (ci := 10) (j := 3) (C := RX10) (T := TX10) (N := 45) rfl rfl (by decide) in_X10 wl_5_167 rfl dX10_allNow_6 (?_ : SdS X 9 [(0, 20), (1, 0), (2, 0)] [19, 0] _)
    refine su_getFN hC (ci := 9) (j := 4) (C := RX9) (T := TX9) (N := 28) (host := "NarrowRingsModel") rfl rfl (by decide) in_X9 (by decide) rfl dX10_allNow_9 (?_ : SdS X 12 [(0, 20), (1, 0), (2, 0)] [0, 0] _)
    refine su_icmp_ge (tgt := 42) hC dX10_allNow_12 rfl (?_ : SdS X 42 [(0, 20), (1, 0), (2, 0)] [] _) (?_ : SdS X 15 [(0, 20), (1, 0), (2, 0)] [] _)
    · refine su_iload_n hC dX10_allNow_42 rfl (by decide) (?_ : SdS X 43 [(0, 20), (1, 0), (2, 0)] [0] _)
      exact su_ireturn hC hT dX10_allNow_43
    · refine su_iload_n hC dX10_allNow_15 rfl (by decide) (?_ : SdS X 16 [(0, 20), (1, 0), (2, 0)] [0] _)
      refine su_aload_n hC 20 dX10_allNow_16 rfl (by decide) (by decide) (?_ : SdS X 17 [(0, 20), (1, 0), (2, 0)] [20, 0] _)
      refine su_iload_n hC dX10_allNow_17 rfl (by decide) (?_ : SdS X 18 [(0, 20), (1, 0), (2, 0)] [0, 20, 0] _)
      refine su_inv0 (τ := [0]) (τr := [0]) (ci := 10) (q := (RX10, TX10, 45)) hC WG (M_X10_findsOrder _) rfl rfl rfl rfl  rfl rfl wl_7_91 wl_7_93 wp_87 wl_1_10 wl_7_94 hd_X10_findsOrder (by rw [e3]; decide) (by decide) dX10_allNow_18 (?_ : SdS X 21 [(0, 20), (1, 0), (2, 0)] [0, 0] _)
      refine su_if_eq (tgt := 31) hC dX10_allNow_21 rfl (?_ : SdS X 31 [(0, 20), (1, 0), (2, 0)] [0] _) (?_ : SdS X 24 [(0, 20), (1, 0), (2, 0)] [0] _)
      · refine su_sipush hC dX10_allNow_31 (by decide) (?_ : SdS X 34 [(0, 20), (1, 0), (2, 0)] [0, 0] _)
        exact SdS.weak (by decide) (S_34 k4 h4)
      · refine su_aload_n hC 20 dX10_allNow_24 rfl (by decide) (by decide) (?_ : SdS X 25 [(0, 20), (1, 0), (2, 0)] [20, 0] _)
        refine su_getF hC (ci := 10) (j := 28) (C := RX10) (T := TX10) (N := 45) rfl rfl (by decide) in_X10 wl_5_192 rfl dX10_allNow_25 (?_ : SdS X 28 [(0, 20), (1, 0), (2, 0)] [0, 0] _)
        refine su_goto (tgt := 34) hC dX10_allNow_28 rfl (?_ : SdS X 34 [(0, 20), (1, 0), (2, 0)] [0, 0] _)
        exact SdS.weak (by decide) (S_34 k4 h4)
  refine (?_ : SdS X 0 [(0, 20)] [] (E_X10_allNow Q))
  unfold E_X10_allNow
  refine su_iconst hC dX10_allNow_0 ⟨by decide, by decide⟩ (?_ : SdS X 1 [(0, 20)] [0] _)
  refine su_istore_n (Γ' := [(0, 20), (1, 0)]) hC dX10_allNow_1 rfl (by rw [e2]; decide) (by decide) (?_ : SdS X 2 [(0, 20), (1, 0)] [] _)
  refine su_iconst hC dX10_allNow_2 ⟨by decide, by decide⟩ (?_ : SdS X 3 [(0, 20), (1, 0)] [0] _)
  refine su_istore_n (Γ' := [(0, 20), (1, 0), (2, 0)]) hC dX10_allNow_3 rfl (by rw [e2]; decide) (by decide) (?_ : SdS X 4 [(0, 20), (1, 0), (2, 0)] [] _)
  exact SdS.weak (by decide) (S_4)
theorem hd_X10_good : yX10_good.cls ≠ "java/lang/invoke/MethodHandle" ∧ yX10_good.cls ≠ "java/lang/invoke/VarHandle" ∧ (parseMethodDescriptor yX10_good.desc).map (fun d => d.parameters.length) = some 1 := by decide +kernel
set_option maxRecDepth 100000 in
set_option maxHeartbeats 4000000 in
theorem M_X10_good (l : Launch) : MtS l yX10_good (Cond.code yX10_good cX10_good 2 (some .int) :: WALL) { frames := 0, cells := 0, slots := 0, locals := 0 } [20, 0] (some 0) T_X10_good := by
  refine MtS.mk (B := E_X10_good) (by decide +kernel) (by decide) (fun _ _ _ hh => hh) ?_
  intro X Q e1 e2 e3 hC hN hT
  subst e1
  have hC : CF X cX10_good RX10 WALL := hC
  refine (?_ : SdS X 0 [(0, 20), (1, 0)] [] (E_X10_good Q))
  unfold E_X10_good
  refine su_aload_n hC 20 dX10_good_0 rfl (by decide) (by decide) (?_ : SdS X 1 [(0, 20), (1, 0)] [20] _)
  refine su_iconst hC dX10_good_1 ⟨by decide, by decide⟩ (?_ : SdS X 2 [(0, 20), (1, 0)] [0, 20] _)
  refine su_putF hC (ci := 10) (j := 1) (C := RX10) (T := TX10) (N := 45) tyX10 tyX10_ok nmX10 rfl rfl (by decide) in_X10 rfl rfl wl_5_165 rfl dX10_good_2 (?_ : SdS X 5 [(0, 20), (1, 0)] [] _)
  refine su_aload_n hC 20 dX10_good_5 rfl (by decide) (by decide) (?_ : SdS X 6 [(0, 20), (1, 0)] [20] _)
  refine su_iconst hC dX10_good_6 ⟨by decide, by decide⟩ (?_ : SdS X 7 [(0, 20), (1, 0)] [0, 20] _)
  refine su_putF hC (ci := 10) (j := 2) (C := RX10) (T := TX10) (N := 45) tyX10 tyX10_ok nmX10 rfl rfl (by decide) in_X10 rfl rfl wl_5_166 rfl dX10_good_7 (?_ : SdS X 10 [(0, 20), (1, 0)] [] _)
  refine su_iload_n hC dX10_good_10 rfl (by decide) (?_ : SdS X 11 [(0, 20), (1, 0)] [0] _)
  exact su_ireturn hC hT dX10_good_11
theorem wl_5_164 : Cond.fieldLink RX10 61 "NarrowRingsModel" "thrown" "I" ∈ WALL := tb5 (List.mem_of_getElem? (i := 164) rfl) rfl
theorem wl_8_19 : Cond.methodLink RX10 465 yX10_allNow ∈ WALL := tb8 (List.mem_of_getElem? (i := 19) rfl) rfl
theorem wl_8_21 : Cond.instanceMethod yX10_allNow ∈ WALL := tb8 (List.mem_of_getElem? (i := 21) rfl) rfl
theorem wp_113 : Cond.selects RX10 yX10_allNow yX10_allNow ∈ WALL := tbS (List.mem_of_getElem? (i := 113) rfl)
theorem wl_8_22 : Cond.code yX10_allNow cX10_allNow 3 (some .int) ∈ WALL := tb8 (List.mem_of_getElem? (i := 22) rfl) rfl
theorem wl_7_171 : Cond.methodLink RX10 71 yX10_good ∈ WALL := tb7 (List.mem_of_getElem? (i := 171) rfl) rfl
theorem wl_7_173 : Cond.instanceMethod yX10_good ∈ WALL := tb7 (List.mem_of_getElem? (i := 173) rfl) rfl
theorem wp_105 : Cond.selects RX10 yX10_good yX10_good ∈ WALL := tbS (List.mem_of_getElem? (i := 105) rfl)
theorem wl_7_174 : Cond.code yX10_good cX10_good 2 (some .int) ∈ WALL := tb7 (List.mem_of_getElem? (i := 174) rfl) rfl
theorem wl_6_72 : Cond.methodLink RX10 67 yX10_refused ∈ WALL := tb6 (List.mem_of_getElem? (i := 72) rfl) rfl
theorem wl_6_74 : Cond.instanceMethod yX10_refused ∈ WALL := tb6 (List.mem_of_getElem? (i := 74) rfl) rfl
theorem wp_63 : Cond.selects RX10 yX10_refused yX10_refused ∈ WALL := tbS (List.mem_of_getElem? (i := 63) rfl)
theorem wl_6_75 : Cond.code yX10_refused cX10_refused 2 (some .int) ∈ WALL := tb6 (List.mem_of_getElem? (i := 75) rfl) rfl
theorem hd_X10_all : yX10_all.cls ≠ "java/lang/invoke/MethodHandle" ∧ yX10_all.cls ≠ "java/lang/invoke/VarHandle" ∧ (parseMethodDescriptor yX10_all.desc).map (fun d => d.parameters.length) = some 0 := by decide +kernel
set_option maxRecDepth 100000 in
set_option maxHeartbeats 4000000 in
theorem M_X10_all (l : Launch) : MtS l yX10_all (Cond.code yX10_all cX10_all 1 (some .int) :: WALL) { frames := 8, cells := 0, slots := 0, locals := 194 } [20] (some 0) T_X10_all := by
  refine MtS.mk (B := E_X10_all) (by decide +kernel) (by decide) (fun _ _ _ hh => hh) ?_
  intro X Q e1 e2 e3 hC hN hT
  subst e1
  have hC : CF X cX10_all RX10 WALL := hC
  have S_28 : SdS X 28 [(0, 20)] [0] (B_X10_all_28 Q) := by
    unfold B_X10_all_28
    exact su_ireturn hC hT dX10_all_28
  refine (?_ : SdS X 0 [(0, 20)] [] (E_X10_all Q))
  unfold E_X10_all
  refine su_aload_n hC 20 dX10_all_0 rfl (by decide) (by decide) (?_ : SdS X 1 [(0, 20)] [20] _)
  refine su_iconst hC dX10_all_1 ⟨by decide, by decide⟩ (?_ : SdS X 2 [(0, 20)] [0, 20] _)
  refine su_putF hC (ci := 10) (j := 0) (C := RX10) (T := TX10) (N := 45) tyX10 tyX10_ok nmX10 rfl rfl (by decide) in_X10 rfl rfl wl_5_164 rfl dX10_all_2 (?_ : SdS X 5 [(0, 20)] [] _)
  refine su_aload_n hC 20 dX10_all_5 rfl (by decide) (by decide) (?_ : SdS X 6 [(0, 20)] [20] _)
  refine su_getR hC (ci := 10) (j := 3) (C := RX10) (T := TX10) (N := 45) rfl rfl (by decide) in_X10 wl_5_167 rfl dX10_all_6 (?_ : SdS X 9 [(0, 20)] [19] _)
  refine su_ifnonnull (tgt := 20) hC (by decide) dX10_all_9 rfl (?_ : SdS X 20 [(0, 20)] [] _) (?_ : SdS X 12 [(0, 20)] [] _)
  · refine su_aload_n hC 20 dX10_all_20 rfl (by decide) (by decide) (?_ : SdS X 21 [(0, 20)] [20] _)
    refine su_aload_n hC 20 dX10_all_21 rfl (by decide) (by decide) (?_ : SdS X 22 [(0, 20)] [20, 20] _)
    refine su_inv0 (τ := [20]) (τr := []) (ci := 10) (q := (RX10, TX10, 45)) hC WG (M_X10_allNow _) rfl rfl rfl rfl  rfl rfl wl_8_19 wl_8_21 wp_113 wl_1_10 wl_8_22 hd_X10_allNow (by rw [e3]; decide) (by decide) dX10_all_22 (?_ : SdS X 25 [(0, 20)] [0, 20] _)
    refine su_inv0 (τ := []) (τr := [0]) (ci := 10) (q := (RX10, TX10, 45)) hC WG (M_X10_good _) rfl rfl rfl rfl  rfl rfl wl_7_171 wl_7_173 wp_105 wl_1_10 wl_7_174 hd_X10_good (by rw [e3]; decide) (by decide) dX10_all_25 (?_ : SdS X 28 [(0, 20)] [0] _)
    exact SdS.weak (by decide) (S_28)
  · refine su_aload_n hC 20 dX10_all_12 rfl (by decide) (by decide) (?_ : SdS X 13 [(0, 20)] [20] _)
    refine su_iconst hC dX10_all_13 ⟨by decide, by decide⟩ (?_ : SdS X 14 [(0, 20)] [0, 20] _)
    refine su_inv0 (τ := []) (τr := [0]) (ci := 10) (q := (RX10, TX10, 45)) hC WG (M_X10_refused _) rfl rfl rfl rfl  rfl rfl wl_6_72 wl_6_74 wp_63 wl_1_10 wl_6_75 hd_X10_refused (by rw [e3]; decide) (by decide) dX10_all_14 (?_ : SdS X 17 [(0, 20)] [0] _)
    refine su_goto (tgt := 28) hC dX10_all_17 rfl (?_ : SdS X 28 [(0, 20)] [0] _)
    exact SdS.weak (by decide) (S_28)
theorem hd_X10_denied : yX10_denied.cls ≠ "java/lang/invoke/MethodHandle" ∧ yX10_denied.cls ≠ "java/lang/invoke/VarHandle" ∧ (parseMethodDescriptor yX10_denied.desc).map (fun d => d.parameters.length) = some 1 := by decide +kernel
set_option maxRecDepth 100000 in
set_option maxHeartbeats 4000000 in
theorem M_X10_denied (l : Launch) : MtS l yX10_denied (Cond.code yX10_denied cX10_denied 2 (some .boolean) :: WALL) { frames := 1, cells := 0, slots := 0, locals := 21 } [20, 0] (some 0) T_X10_denied := by
  refine MtS.mk (B := E_X10_denied) (by decide +kernel) (by decide) (fun _ _ _ hh => hh) ?_
  intro X Q e1 e2 e3 hC hN hT
  subst e1
  have hC : CF X cX10_denied RX10 WALL := hC
  refine (?_ : SdS X 0 [(0, 20), (1, 0)] [] (E_X10_denied Q))
  unfold E_X10_denied
  refine su_aload_n hC 20 dX10_denied_0 rfl (by decide) (by decide) (?_ : SdS X 1 [(0, 20), (1, 0)] [20] _)
  refine su_iload_n hC dX10_denied_1 rfl (by decide) (?_ : SdS X 2 [(0, 20), (1, 0)] [0, 20] _)
  refine su_inv0 (τ := []) (τr := [0]) (ci := 10) (q := (RX10, TX10, 45)) hC WG (M_X10_refused _) rfl rfl rfl rfl  rfl rfl wl_6_72 wl_6_74 wp_63 wl_1_10 wl_6_75 hd_X10_refused (by rw [e3]; decide) (by decide) dX10_denied_2 (?_ : SdS X 5 [(0, 20), (1, 0)] [0] _)
  refine su_pop hC (by decide) dX10_denied_5 (?_ : SdS X 6 [(0, 20), (1, 0)] [] _)
  refine su_iconst hC dX10_denied_6 ⟨by decide, by decide⟩ (?_ : SdS X 7 [(0, 20), (1, 0)] [0] _)
  exact su_zreturn hC hT dX10_denied_7
theorem wl_5_203 : Cond.fieldLink RX10 468 "NarrowRingsModel" "marks" "I" ∈ WALL := tb5 (List.mem_of_getElem? (i := 203) rfl) rfl
theorem wl_5_202 : Cond.fieldLink RX10 471 "NarrowRingsModel" "loads" "I" ∈ WALL := tb5 (List.mem_of_getElem? (i := 202) rfl) rfl
theorem wl_5_201 : Cond.fieldLink RX10 46 "NarrowRingsModel" "wayMany" "[I" ∈ WALL := tb5 (List.mem_of_getElem? (i := 201) rfl) rfl
theorem wl_5_198 : Cond.fieldLink RX10 37 "NarrowRingsModel" "loadOrder" "[I" ∈ WALL := tb5 (List.mem_of_getElem? (i := 198) rfl) rfl
theorem wl_5_199 : Cond.fieldLink RX10 40 "NarrowRingsModel" "loadWeight" "[I" ∈ WALL := tb5 (List.mem_of_getElem? (i := 199) rfl) rfl
theorem wl_5_196 : Cond.fieldLink RX10 31 "NarrowRingsModel" "w" "[I" ∈ WALL := tb5 (List.mem_of_getElem? (i := 196) rfl) rfl
theorem wl_5_200 : Cond.fieldLink RX10 43 "NarrowRingsModel" "ways" "[I" ∈ WALL := tb5 (List.mem_of_getElem? (i := 200) rfl) rfl
theorem hd_X10_dawns : yX10_dawns.cls ≠ "java/lang/invoke/MethodHandle" ∧ yX10_dawns.cls ≠ "java/lang/invoke/VarHandle" ∧ (parseMethodDescriptor yX10_dawns.desc).map (fun d => d.parameters.length) = some 0 := by decide +kernel
set_option maxRecDepth 100000 in
set_option maxHeartbeats 4000000 in
theorem M_X10_dawns (l : Launch) : MtS l yX10_dawns (Cond.code yX10_dawns cX10_dawns 4 none :: WALL) { frames := 7, cells := 0, slots := 0, locals := 172 } [20] none T_X10_dawns := by
  refine MtS.mk (B := E_X10_dawns) (by decide +kernel) (by decide) (fun _ _ _ hh => hh) ?_
  intro X Q e1 e2 e3 hC hN hT
  subst e1
  have hC : CF X cX10_dawns RX10 WALL := hC
  have S_228 : ∀ (k34 : xK), SdS X 34 [(0, 20), (1, 0)] [] k34 → SdS X 228 [(0, 20), (1, 0)] [] (B_X10_dawns_228 Q k34) := by
    intro k34 h34
    unfold B_X10_dawns_228
    refine su_iinc (Γ' := [(0, 20), (1, 0)]) hC dX10_dawns_228 (by decide) (by rw [e2]; decide) (by decide) (?_ : SdS X 231 [(0, 20), (1, 0)] [] _)
    refine su_goto (tgt := 34) hC dX10_dawns_231 rfl (?_ : SdS X 34 [(0, 20), (1, 0)] [] _)
    exact SdS.weak (by decide) h34
  have S_118 : ∀ (k34 : xK), SdS X 34 [(0, 20), (1, 0)] [] k34 → SdS X 118 [(0, 20), (1, 0), (2, 0)] [] (L_X10_dawns_118 Q k34) := by
    intro k34 h34
    unfold L_X10_dawns_118
    refine SdS.loop (fun k118 h118 => ?_)
    refine su_iload_n hC dX10_dawns_118 rfl (by decide) (?_ : SdS X 119 [(0, 20), (1, 0), (2, 0)] [0] _)
    refine su_aload_n hC 20 dX10_dawns_119 rfl (by decide) (by decide) (?_ : SdS X 120 [(0, 20), (1, 0), (2, 0)] [20, 0] _)
    refine su_getF hC (ci := 10) (j := 23) (C := RX10) (T := TX10) (N := 45) rfl rfl (by decide) in_X10 wl_5_187 rfl dX10_dawns_120 (?_ : SdS X 123 [(0, 20), (1, 0), (2, 0)] [0, 0] _)
    refine su_icmp_ge (tgt := 228) hC dX10_dawns_123 rfl (?_ : SdS X 228 [(0, 20), (1, 0), (2, 0)] [] _) (?_ : SdS X 126 [(0, 20), (1, 0), (2, 0)] [] _)
    · exact SdS.weak (by decide) (S_228 k34 h34)
    · refine su_aload_n hC 20 dX10_dawns_126 rfl (by decide) (by decide) (?_ : SdS X 127 [(0, 20), (1, 0), (2, 0)] [20] _)
      refine su_getR hC (ci := 10) (j := 34) (C := RX10) (T := TX10) (N := 45) rfl rfl (by decide) in_X10 wl_5_198 rfl dX10_dawns_127 (?_ : SdS X 130 [(0, 20), (1, 0), (2, 0)] [100] _)
      refine su_aload_n hC 20 dX10_dawns_130 rfl (by decide) (by decide) (?_ : SdS X 131 [(0, 20), (1, 0), (2, 0)] [20, 100] _)
      refine su_getF hC (ci := 10) (j := 38) (C := RX10) (T := TX10) (N := 45) rfl rfl (by decide) in_X10 wl_5_202 rfl dX10_dawns_131 (?_ : SdS X 134 [(0, 20), (1, 0), (2, 0)] [0, 100] _)
      refine su_iload_n hC dX10_dawns_134 rfl (by decide) (?_ : SdS X 135 [(0, 20), (1, 0), (2, 0)] [0, 0, 100] _)
      refine su_iastore hC dX10_dawns_135 (?_ : SdS X 136 [(0, 20), (1, 0), (2, 0)] [] _)
      refine su_aload_n hC 20 dX10_dawns_136 rfl (by decide) (by decide) (?_ : SdS X 137 [(0, 20), (1, 0), (2, 0)] [20] _)
      refine su_getR hC (ci := 10) (j := 35) (C := RX10) (T := TX10) (N := 45) rfl rfl (by decide) in_X10 wl_5_199 rfl dX10_dawns_137 (?_ : SdS X 140 [(0, 20), (1, 0), (2, 0)] [100] _)
      refine su_aload_n hC 20 dX10_dawns_140 rfl (by decide) (by decide) (?_ : SdS X 141 [(0, 20), (1, 0), (2, 0)] [20, 100] _)
      refine su_getF hC (ci := 10) (j := 38) (C := RX10) (T := TX10) (N := 45) rfl rfl (by decide) in_X10 wl_5_202 rfl dX10_dawns_141 (?_ : SdS X 144 [(0, 20), (1, 0), (2, 0)] [0, 100] _)
      refine su_aload_n hC 20 dX10_dawns_144 rfl (by decide) (by decide) (?_ : SdS X 145 [(0, 20), (1, 0), (2, 0)] [20, 0, 100] _)
      refine su_getF hC (ci := 10) (j := 21) (C := RX10) (T := TX10) (N := 45) rfl rfl (by decide) in_X10 wl_5_185 rfl dX10_dawns_145 (?_ : SdS X 148 [(0, 20), (1, 0), (2, 0)] [0, 0, 100] _)
      refine su_iastore hC dX10_dawns_148 (?_ : SdS X 149 [(0, 20), (1, 0), (2, 0)] [] _)
      refine su_bipush hC dX10_dawns_149 (by decide) (?_ : SdS X 151 [(0, 20), (1, 0), (2, 0)] [0] _)
      refine su_aload_n hC 20 dX10_dawns_151 rfl (by decide) (by decide) (?_ : SdS X 152 [(0, 20), (1, 0), (2, 0)] [20, 0] _)
      refine su_getF hC (ci := 10) (j := 38) (C := RX10) (T := TX10) (N := 45) rfl rfl (by decide) in_X10 wl_5_202 rfl dX10_dawns_152 (?_ : SdS X 155 [(0, 20), (1, 0), (2, 0)] [0, 0] _)
      refine su_imul hC dX10_dawns_155 (?_ : SdS X 156 [(0, 20), (1, 0), (2, 0)] [0] _)
      refine su_istore_n (Γ' := [(0, 20), (1, 0), (2, 0), (3, 0)]) hC dX10_dawns_156 rfl (by rw [e2]; decide) (by decide) (?_ : SdS X 157 [(0, 20), (1, 0), (2, 0), (3, 0)] [] _)
      refine su_aload_n hC 20 dX10_dawns_157 rfl (by decide) (by decide) (?_ : SdS X 158 [(0, 20), (1, 0), (2, 0), (3, 0)] [20] _)
      refine su_getR hC (ci := 10) (j := 32) (C := RX10) (T := TX10) (N := 45) rfl rfl (by decide) in_X10 wl_5_196 rfl dX10_dawns_158 (?_ : SdS X 161 [(0, 20), (1, 0), (2, 0), (3, 0)] [100] _)
      refine su_iload_n hC dX10_dawns_161 rfl (by decide) (?_ : SdS X 162 [(0, 20), (1, 0), (2, 0), (3, 0)] [0, 100] _)
      refine su_iconst hC dX10_dawns_162 ⟨by decide, by decide⟩ (?_ : SdS X 163 [(0, 20), (1, 0), (2, 0), (3, 0)] [0, 0, 100] _)
      refine su_iadd hC dX10_dawns_163 (?_ : SdS X 164 [(0, 20), (1, 0), (2, 0), (3, 0)] [0, 100] _)
      refine su_aload_n hC 20 dX10_dawns_164 rfl (by decide) (by decide) (?_ : SdS X 165 [(0, 20), (1, 0), (2, 0), (3, 0)] [20, 0, 100] _)
      refine su_getR hC (ci := 10) (j := 3) (C := RX10) (T := TX10) (N := 45) rfl rfl (by decide) in_X10 wl_5_167 rfl dX10_dawns_165 (?_ : SdS X 168 [(0, 20), (1, 0), (2, 0), (3, 0)] [19, 0, 100] _)
      refine su_getRN hC (ci := 9) (j := 21) (C := RX9) (T := TX9) (N := 28) (host := "NarrowRingsModel") rfl rfl (by decide) in_X9 (by decide) rfl dX10_dawns_168 (?_ : SdS X 171 [(0, 20), (1, 0), (2, 0), (3, 0)] [100, 0, 100] _)
      refine su_iload_n hC dX10_dawns_171 rfl (by decide) (?_ : SdS X 172 [(0, 20), (1, 0), (2, 0), (3, 0)] [0, 100, 0, 100] _)
      refine su_iaload hC dX10_dawns_172 (?_ : SdS X 173 [(0, 20), (1, 0), (2, 0), (3, 0)] [0, 0, 100] _)
      refine su_iastore hC dX10_dawns_173 (?_ : SdS X 174 [(0, 20), (1, 0), (2, 0), (3, 0)] [] _)
      refine su_aload_n hC 20 dX10_dawns_174 rfl (by decide) (by decide) (?_ : SdS X 175 [(0, 20), (1, 0), (2, 0), (3, 0)] [20] _)
      refine su_getR hC (ci := 10) (j := 32) (C := RX10) (T := TX10) (N := 45) rfl rfl (by decide) in_X10 wl_5_196 rfl dX10_dawns_175 (?_ : SdS X 178 [(0, 20), (1, 0), (2, 0), (3, 0)] [100] _)
      refine su_iload_n hC dX10_dawns_178 rfl (by decide) (?_ : SdS X 179 [(0, 20), (1, 0), (2, 0), (3, 0)] [0, 100] _)
      refine su_iconst hC dX10_dawns_179 ⟨by decide, by decide⟩ (?_ : SdS X 180 [(0, 20), (1, 0), (2, 0), (3, 0)] [0, 0, 100] _)
      refine su_iadd hC dX10_dawns_180 (?_ : SdS X 181 [(0, 20), (1, 0), (2, 0), (3, 0)] [0, 100] _)
      refine su_aload_n hC 20 dX10_dawns_181 rfl (by decide) (by decide) (?_ : SdS X 182 [(0, 20), (1, 0), (2, 0), (3, 0)] [20, 0, 100] _)
      refine su_getR hC (ci := 10) (j := 3) (C := RX10) (T := TX10) (N := 45) rfl rfl (by decide) in_X10 wl_5_167 rfl dX10_dawns_182 (?_ : SdS X 185 [(0, 20), (1, 0), (2, 0), (3, 0)] [19, 0, 100] _)
      refine su_getRN hC (ci := 9) (j := 22) (C := RX9) (T := TX9) (N := 28) (host := "NarrowRingsModel") rfl rfl (by decide) in_X9 (by decide) rfl dX10_dawns_185 (?_ : SdS X 188 [(0, 20), (1, 0), (2, 0), (3, 0)] [100, 0, 100] _)
      refine su_iload_n hC dX10_dawns_188 rfl (by decide) (?_ : SdS X 189 [(0, 20), (1, 0), (2, 0), (3, 0)] [0, 100, 0, 100] _)
      refine su_iaload hC dX10_dawns_189 (?_ : SdS X 190 [(0, 20), (1, 0), (2, 0), (3, 0)] [0, 0, 100] _)
      refine su_iastore hC dX10_dawns_190 (?_ : SdS X 191 [(0, 20), (1, 0), (2, 0), (3, 0)] [] _)
      refine su_aload_n hC 20 dX10_dawns_191 rfl (by decide) (by decide) (?_ : SdS X 192 [(0, 20), (1, 0), (2, 0), (3, 0)] [20] _)
      refine su_getR hC (ci := 10) (j := 32) (C := RX10) (T := TX10) (N := 45) rfl rfl (by decide) in_X10 wl_5_196 rfl dX10_dawns_192 (?_ : SdS X 195 [(0, 20), (1, 0), (2, 0), (3, 0)] [100] _)
      refine su_iload_n hC dX10_dawns_195 rfl (by decide) (?_ : SdS X 196 [(0, 20), (1, 0), (2, 0), (3, 0)] [0, 100] _)
      refine su_iconst hC dX10_dawns_196 ⟨by decide, by decide⟩ (?_ : SdS X 197 [(0, 20), (1, 0), (2, 0), (3, 0)] [0, 0, 100] _)
      refine su_iadd hC dX10_dawns_197 (?_ : SdS X 198 [(0, 20), (1, 0), (2, 0), (3, 0)] [0, 100] _)
      refine su_bipush hC dX10_dawns_198 (by decide) (?_ : SdS X 200 [(0, 20), (1, 0), (2, 0), (3, 0)] [0, 0, 100] _)
      refine su_iastore hC dX10_dawns_200 (?_ : SdS X 201 [(0, 20), (1, 0), (2, 0), (3, 0)] [] _)
      refine su_aload_n hC 20 dX10_dawns_201 rfl (by decide) (by decide) (?_ : SdS X 202 [(0, 20), (1, 0), (2, 0), (3, 0)] [20] _)
      refine su_getR hC (ci := 10) (j := 32) (C := RX10) (T := TX10) (N := 45) rfl rfl (by decide) in_X10 wl_5_196 rfl dX10_dawns_202 (?_ : SdS X 205 [(0, 20), (1, 0), (2, 0), (3, 0)] [100] _)
      refine su_iload_n hC dX10_dawns_205 rfl (by decide) (?_ : SdS X 206 [(0, 20), (1, 0), (2, 0), (3, 0)] [0, 100] _)
      refine su_bipush hC dX10_dawns_206 (by decide) (?_ : SdS X 208 [(0, 20), (1, 0), (2, 0), (3, 0)] [0, 0, 100] _)
      refine su_iadd hC dX10_dawns_208 (?_ : SdS X 209 [(0, 20), (1, 0), (2, 0), (3, 0)] [0, 100] _)
      refine su_bipush hC dX10_dawns_209 (by decide) (?_ : SdS X 211 [(0, 20), (1, 0), (2, 0), (3, 0)] [0, 0, 100] _)
      refine su_iastore hC dX10_dawns_211 (?_ : SdS X 212 [(0, 20), (1, 0), (2, 0), (3, 0)] [] _)
      refine su_aload_n hC 20 dX10_dawns_212 rfl (by decide) (by decide) (?_ : SdS X 213 [(0, 20), (1, 0), (2, 0), (3, 0)] [20] _)
      refine su_dup hC (by decide) dX10_dawns_213 (?_ : SdS X 214 [(0, 20), (1, 0), (2, 0), (3, 0)] [20, 20] _)
      refine su_getF hC (ci := 10) (j := 38) (C := RX10) (T := TX10) (N := 45) rfl rfl (by decide) in_X10 wl_5_202 rfl dX10_dawns_214 (?_ : SdS X 217 [(0, 20), (1, 0), (2, 0), (3, 0)] [0, 20] _)
      refine su_iconst hC dX10_dawns_217 ⟨by decide, by decide⟩ (?_ : SdS X 218 [(0, 20), (1, 0), (2, 0), (3, 0)] [0, 0, 20] _)
      refine su_iadd hC dX10_dawns_218 (?_ : SdS X 219 [(0, 20), (1, 0), (2, 0), (3, 0)] [0, 20] _)
      refine su_putF hC (ci := 10) (j := 38) (C := RX10) (T := TX10) (N := 45) tyX10 tyX10_ok nmX10 rfl rfl (by decide) in_X10 rfl rfl wl_5_202 rfl dX10_dawns_219 (?_ : SdS X 222 [(0, 20), (1, 0), (2, 0), (3, 0)] [] _)
      refine su_iinc (Γ' := [(0, 20), (1, 0), (2, 0), (3, 0)]) hC dX10_dawns_222 (by decide) (by rw [e2]; decide) (by decide) (?_ : SdS X 225 [(0, 20), (1, 0), (2, 0), (3, 0)] [] _)
      refine su_goto (tgt := 118) hC dX10_dawns_225 rfl (?_ : SdS X 118 [(0, 20), (1, 0), (2, 0), (3, 0)] [] _)
      exact SdS.weak (by decide) h118
  have S_68 : ∀ (k34 : xK), SdS X 34 [(0, 20), (1, 0)] [] k34 → SdS X 68 [(0, 20), (1, 0), (2, 0)] [] (L_X10_dawns_68 Q k34) := by
    intro k34 h34
    unfold L_X10_dawns_68
    refine SdS.loop (fun k68 h68 => ?_)
    refine su_iload_n hC dX10_dawns_68 rfl (by decide) (?_ : SdS X 69 [(0, 20), (1, 0), (2, 0)] [0] _)
    refine su_aload_n hC 20 dX10_dawns_69 rfl (by decide) (by decide) (?_ : SdS X 70 [(0, 20), (1, 0), (2, 0)] [20, 0] _)
    refine su_getF hC (ci := 10) (j := 30) (C := RX10) (T := TX10) (N := 45) rfl rfl (by decide) in_X10 wl_5_194 rfl dX10_dawns_70 (?_ : SdS X 73 [(0, 20), (1, 0), (2, 0)] [0, 0] _)
    refine su_icmp_ge (tgt := 99) hC dX10_dawns_73 rfl (?_ : SdS X 99 [(0, 20), (1, 0), (2, 0)] [] _) (?_ : SdS X 76 [(0, 20), (1, 0), (2, 0)] [] _)
    · refine su_aload_n hC 20 dX10_dawns_99 rfl (by decide) (by decide) (?_ : SdS X 100 [(0, 20), (1, 0), (2, 0)] [20] _)
      refine su_aload_n hC 20 dX10_dawns_100 rfl (by decide) (by decide) (?_ : SdS X 101 [(0, 20), (1, 0), (2, 0)] [20, 20] _)
      refine su_getR hC (ci := 10) (j := 3) (C := RX10) (T := TX10) (N := 45) rfl rfl (by decide) in_X10 wl_5_167 rfl dX10_dawns_101 (?_ : SdS X 104 [(0, 20), (1, 0), (2, 0)] [19, 20] _)
      refine su_getRN hC (ci := 9) (j := 20) (C := RX9) (T := TX9) (N := 28) (host := "NarrowRingsModel") rfl rfl (by decide) in_X9 (by decide) rfl dX10_dawns_104 (?_ : SdS X 107 [(0, 20), (1, 0), (2, 0)] [100, 20] _)
      refine su_iload_n hC dX10_dawns_107 rfl (by decide) (?_ : SdS X 108 [(0, 20), (1, 0), (2, 0)] [0, 100, 20] _)
      refine su_iaload hC dX10_dawns_108 (?_ : SdS X 109 [(0, 20), (1, 0), (2, 0)] [0, 20] _)
      refine su_aload_n hC 20 dX10_dawns_109 rfl (by decide) (by decide) (?_ : SdS X 110 [(0, 20), (1, 0), (2, 0)] [20, 0, 20] _)
      refine su_getF hC (ci := 10) (j := 27) (C := RX10) (T := TX10) (N := 45) rfl rfl (by decide) in_X10 wl_5_191 rfl dX10_dawns_110 (?_ : SdS X 113 [(0, 20), (1, 0), (2, 0)] [0, 0, 20] _)
      refine su_inv0v (τ := []) (τr := [0, 0]) (ci := 10) (q := (RX10, TX10, 45)) hC WG (M_X10_takes _) rfl rfl rfl rfl  rfl rfl wl_7_103 wl_7_105 wp_90 wl_1_10 wl_7_106 hd_X10_takes (by rw [e3]; decide) (by decide) dX10_dawns_113 (?_ : SdS X 116 [(0, 20), (1, 0), (2, 0)] [] _)
      refine su_iconst hC dX10_dawns_116 ⟨by decide, by decide⟩ (?_ : SdS X 117 [(0, 20), (1, 0), (2, 0)] [0] _)
      refine su_istore_n (Γ' := [(0, 20), (1, 0), (2, 0)]) hC dX10_dawns_117 rfl (by rw [e2]; decide) (by decide) (?_ : SdS X 118 [(0, 20), (1, 0), (2, 0)] [] _)
      exact SdS.weak (by decide) (S_118 k34 h34)
    · refine su_aload_n hC 20 dX10_dawns_76 rfl (by decide) (by decide) (?_ : SdS X 77 [(0, 20), (1, 0), (2, 0)] [20] _)
      refine su_getR hC (ci := 10) (j := 36) (C := RX10) (T := TX10) (N := 45) rfl rfl (by decide) in_X10 wl_5_200 rfl dX10_dawns_77 (?_ : SdS X 80 [(0, 20), (1, 0), (2, 0)] [100] _)
      refine su_bipush hC dX10_dawns_80 (by decide) (?_ : SdS X 82 [(0, 20), (1, 0), (2, 0)] [0, 100] _)
      refine su_iload_n hC dX10_dawns_82 rfl (by decide) (?_ : SdS X 83 [(0, 20), (1, 0), (2, 0)] [0, 0, 100] _)
      refine su_imul hC dX10_dawns_83 (?_ : SdS X 84 [(0, 20), (1, 0), (2, 0)] [0, 100] _)
      refine su_iload_n hC dX10_dawns_84 rfl (by decide) (?_ : SdS X 85 [(0, 20), (1, 0), (2, 0)] [0, 0, 100] _)
      refine su_iadd hC dX10_dawns_85 (?_ : SdS X 86 [(0, 20), (1, 0), (2, 0)] [0, 100] _)
      refine su_aload_n hC 20 dX10_dawns_86 rfl (by decide) (by decide) (?_ : SdS X 87 [(0, 20), (1, 0), (2, 0)] [20, 0, 100] _)
      refine su_getR hC (ci := 10) (j := 31) (C := RX10) (T := TX10) (N := 45) rfl rfl (by decide) in_X10 wl_5_195 rfl dX10_dawns_87 (?_ : SdS X 90 [(0, 20), (1, 0), (2, 0)] [100, 0, 100] _)
      refine su_iload_n hC dX10_dawns_90 rfl (by decide) (?_ : SdS X 91 [(0, 20), (1, 0), (2, 0)] [0, 100, 0, 100] _)
      refine su_iaload hC dX10_dawns_91 (?_ : SdS X 92 [(0, 20), (1, 0), (2, 0)] [0, 0, 100] _)
      refine su_iastore hC dX10_dawns_92 (?_ : SdS X 93 [(0, 20), (1, 0), (2, 0)] [] _)
      refine su_iinc (Γ' := [(0, 20), (1, 0), (2, 0)]) hC dX10_dawns_93 (by decide) (by rw [e2]; decide) (by decide) (?_ : SdS X 96 [(0, 20), (1, 0), (2, 0)] [] _)
      refine su_goto (tgt := 68) hC dX10_dawns_96 rfl (?_ : SdS X 68 [(0, 20), (1, 0), (2, 0)] [] _)
      exact SdS.weak (by decide) h68
  have S_34 : SdS X 34 [(0, 20), (1, 0)] [] (L_X10_dawns_34 Q) := by
    unfold L_X10_dawns_34
    refine SdS.loop (fun k34 h34 => ?_)
    refine su_iload_n hC dX10_dawns_34 rfl (by decide) (?_ : SdS X 35 [(0, 20), (1, 0)] [0] _)
    refine su_aload_n hC 20 dX10_dawns_35 rfl (by decide) (by decide) (?_ : SdS X 36 [(0, 20), (1, 0)] [20, 0] _)
    refine su_getR hC (ci := 10) (j := 3) (C := RX10) (T := TX10) (N := 45) rfl rfl (by decide) in_X10 wl_5_167 rfl dX10_dawns_36 (?_ : SdS X 39 [(0, 20), (1, 0)] [19, 0] _)
    refine su_getFN hC (ci := 9) (j := 4) (C := RX9) (T := TX9) (N := 28) (host := "NarrowRingsModel") rfl rfl (by decide) in_X9 (by decide) rfl dX10_dawns_39 (?_ : SdS X 42 [(0, 20), (1, 0)] [0, 0] _)
    refine su_icmp_ge (tgt := 234) hC dX10_dawns_42 rfl (?_ : SdS X 234 [(0, 20), (1, 0)] [] _) (?_ : SdS X 45 [(0, 20), (1, 0)] [] _)
    · exact su_return hC hT dX10_dawns_234
    · refine su_aload_n hC 20 dX10_dawns_45 rfl (by decide) (by decide) (?_ : SdS X 46 [(0, 20), (1, 0)] [20] _)
      refine su_iload_n hC dX10_dawns_46 rfl (by decide) (?_ : SdS X 47 [(0, 20), (1, 0)] [0, 20] _)
      refine su_inv0 (τ := []) (τr := [0]) (ci := 10) (q := (RX10, TX10, 45)) hC WG (M_X10_findsOrder _) rfl rfl rfl rfl  rfl rfl wl_7_91 wl_7_93 wp_87 wl_1_10 wl_7_94 hd_X10_findsOrder (by rw [e3]; decide) (by decide) dX10_dawns_47 (?_ : SdS X 50 [(0, 20), (1, 0)] [0] _)
      refine su_if_ne (tgt := 56) hC dX10_dawns_50 rfl (?_ : SdS X 56 [(0, 20), (1, 0)] [] _) (?_ : SdS X 53 [(0, 20), (1, 0)] [] _)
      · refine su_aload_n hC 20 dX10_dawns_56 rfl (by decide) (by decide) (?_ : SdS X 57 [(0, 20), (1, 0)] [20] _)
        refine su_getR hC (ci := 10) (j := 37) (C := RX10) (T := TX10) (N := 45) rfl rfl (by decide) in_X10 wl_5_201 rfl dX10_dawns_57 (?_ : SdS X 60 [(0, 20), (1, 0)] [100] _)
        refine su_iload_n hC dX10_dawns_60 rfl (by decide) (?_ : SdS X 61 [(0, 20), (1, 0)] [0, 100] _)
        refine su_aload_n hC 20 dX10_dawns_61 rfl (by decide) (by decide) (?_ : SdS X 62 [(0, 20), (1, 0)] [20, 0, 100] _)
        refine su_getF hC (ci := 10) (j := 30) (C := RX10) (T := TX10) (N := 45) rfl rfl (by decide) in_X10 wl_5_194 rfl dX10_dawns_62 (?_ : SdS X 65 [(0, 20), (1, 0)] [0, 0, 100] _)
        refine su_iastore hC dX10_dawns_65 (?_ : SdS X 66 [(0, 20), (1, 0)] [] _)
        refine su_iconst hC dX10_dawns_66 ⟨by decide, by decide⟩ (?_ : SdS X 67 [(0, 20), (1, 0)] [0] _)
        refine su_istore_n (Γ' := [(0, 20), (1, 0), (2, 0)]) hC dX10_dawns_67 rfl (by rw [e2]; decide) (by decide) (?_ : SdS X 68 [(0, 20), (1, 0), (2, 0)] [] _)
        exact SdS.weak (by decide) (S_68 k34 h34)
      · refine su_goto (tgt := 228) hC dX10_dawns_53 rfl (?_ : SdS X 228 [(0, 20), (1, 0)] [] _)
        exact SdS.weak (by decide) (S_228 k34 h34)
  have S_12 : SdS X 12 [(0, 20), (1, 0)] [] (L_X10_dawns_12 Q) := by
    unfold L_X10_dawns_12
    refine SdS.loop (fun k12 h12 => ?_)
    refine su_iload_n hC dX10_dawns_12 rfl (by decide) (?_ : SdS X 13 [(0, 20), (1, 0)] [0] _)
    refine su_sipush hC dX10_dawns_13 (by decide) (?_ : SdS X 16 [(0, 20), (1, 0)] [0, 0] _)
    refine su_icmp_ge (tgt := 32) hC dX10_dawns_16 rfl (?_ : SdS X 32 [(0, 20), (1, 0)] [] _) (?_ : SdS X 19 [(0, 20), (1, 0)] [] _)
    · refine su_iconst hC dX10_dawns_32 ⟨by decide, by decide⟩ (?_ : SdS X 33 [(0, 20), (1, 0)] [0] _)
      refine su_istore_n (Γ' := [(0, 20), (1, 0)]) hC dX10_dawns_33 rfl (by rw [e2]; decide) (by decide) (?_ : SdS X 34 [(0, 20), (1, 0)] [] _)
      exact SdS.weak (by decide) (S_34)
    · refine su_aload_n hC 20 dX10_dawns_19 rfl (by decide) (by decide) (?_ : SdS X 20 [(0, 20), (1, 0)] [20] _)
      refine su_getR hC (ci := 10) (j := 32) (C := RX10) (T := TX10) (N := 45) rfl rfl (by decide) in_X10 wl_5_196 rfl dX10_dawns_20 (?_ : SdS X 23 [(0, 20), (1, 0)] [100] _)
      refine su_iload_n hC dX10_dawns_23 rfl (by decide) (?_ : SdS X 24 [(0, 20), (1, 0)] [0, 100] _)
      refine su_iconst hC dX10_dawns_24 ⟨by decide, by decide⟩ (?_ : SdS X 25 [(0, 20), (1, 0)] [0, 0, 100] _)
      refine su_iastore hC dX10_dawns_25 (?_ : SdS X 26 [(0, 20), (1, 0)] [] _)
      refine su_iinc (Γ' := [(0, 20), (1, 0)]) hC dX10_dawns_26 (by decide) (by rw [e2]; decide) (by decide) (?_ : SdS X 29 [(0, 20), (1, 0)] [] _)
      refine su_goto (tgt := 12) hC dX10_dawns_29 rfl (?_ : SdS X 12 [(0, 20), (1, 0)] [] _)
      exact SdS.weak (by decide) h12
  refine (?_ : SdS X 0 [(0, 20)] [] (E_X10_dawns Q))
  unfold E_X10_dawns
  refine su_aload_n hC 20 dX10_dawns_0 rfl (by decide) (by decide) (?_ : SdS X 1 [(0, 20)] [20] _)
  refine su_iconst hC dX10_dawns_1 ⟨by decide, by decide⟩ (?_ : SdS X 2 [(0, 20)] [0, 20] _)
  refine su_putF hC (ci := 10) (j := 39) (C := RX10) (T := TX10) (N := 45) tyX10 tyX10_ok nmX10 rfl rfl (by decide) in_X10 rfl rfl wl_5_203 rfl dX10_dawns_2 (?_ : SdS X 5 [(0, 20)] [] _)
  refine su_aload_n hC 20 dX10_dawns_5 rfl (by decide) (by decide) (?_ : SdS X 6 [(0, 20)] [20] _)
  refine su_iconst hC dX10_dawns_6 ⟨by decide, by decide⟩ (?_ : SdS X 7 [(0, 20)] [0, 20] _)
  refine su_putF hC (ci := 10) (j := 38) (C := RX10) (T := TX10) (N := 45) tyX10 tyX10_ok nmX10 rfl rfl (by decide) in_X10 rfl rfl wl_5_202 rfl dX10_dawns_7 (?_ : SdS X 10 [(0, 20)] [] _)
  refine su_iconst hC dX10_dawns_10 ⟨by decide, by decide⟩ (?_ : SdS X 11 [(0, 20)] [0] _)
  refine su_istore_n (Γ' := [(0, 20), (1, 0)]) hC dX10_dawns_11 rfl (by rw [e2]; decide) (by decide) (?_ : SdS X 12 [(0, 20), (1, 0)] [] _)
  exact SdS.weak (by decide) (S_12)
theorem hd_X10_granted : yX10_granted.cls ≠ "java/lang/invoke/MethodHandle" ∧ yX10_granted.cls ≠ "java/lang/invoke/VarHandle" ∧ (parseMethodDescriptor yX10_granted.desc).map (fun d => d.parameters.length) = some 0 := by decide +kernel
set_option maxRecDepth 100000 in
set_option maxHeartbeats 4000000 in
theorem M_X10_granted (l : Launch) : MtS l yX10_granted (Cond.code yX10_granted cX10_granted 1 (some .boolean) :: WALL) { frames := 1, cells := 0, slots := 0, locals := 21 } [20] (some 0) T_X10_granted := by
  refine MtS.mk (B := E_X10_granted) (by decide +kernel) (by decide) (fun _ _ _ hh => hh) ?_
  intro X Q e1 e2 e3 hC hN hT
  subst e1
  have hC : CF X cX10_granted RX10 WALL := hC
  refine (?_ : SdS X 0 [(0, 20)] [] (E_X10_granted Q))
  unfold E_X10_granted
  refine su_aload_n hC 20 dX10_granted_0 rfl (by decide) (by decide) (?_ : SdS X 1 [(0, 20)] [20] _)
  refine su_iconst hC dX10_granted_1 ⟨by decide, by decide⟩ (?_ : SdS X 2 [(0, 20)] [0, 20] _)
  refine su_inv0 (τ := []) (τr := [0]) (ci := 10) (q := (RX10, TX10, 45)) hC WG (M_X10_good _) rfl rfl rfl rfl  rfl rfl wl_7_171 wl_7_173 wp_105 wl_1_10 wl_7_174 hd_X10_good (by rw [e3]; decide) (by decide) dX10_granted_2 (?_ : SdS X 5 [(0, 20)] [0] _)
  refine su_pop hC (by decide) dX10_granted_5 (?_ : SdS X 6 [(0, 20)] [] _)
  refine su_iconst hC dX10_granted_6 ⟨by decide, by decide⟩ (?_ : SdS X 7 [(0, 20)] [0] _)
  exact su_zreturn hC hT dX10_granted_7
theorem wl_7_87 : Cond.methodLink RX10 343 yX10_dawns ∈ WALL := tb7 (List.mem_of_getElem? (i := 87) rfl) rfl
theorem wl_7_89 : Cond.instanceMethod yX10_dawns ∈ WALL := tb7 (List.mem_of_getElem? (i := 89) rfl) rfl
theorem wp_86 : Cond.selects RX10 yX10_dawns yX10_dawns ∈ WALL := tbS (List.mem_of_getElem? (i := 86) rfl)
theorem wl_7_90 : Cond.code yX10_dawns cX10_dawns 4 none ∈ WALL := tb7 (List.mem_of_getElem? (i := 90) rfl) rfl
theorem wl_8_75 : Cond.methodLink RX10 507 yX10_granted ∈ WALL := tb8 (List.mem_of_getElem? (i := 75) rfl) rfl
theorem wl_8_77 : Cond.instanceMethod yX10_granted ∈ WALL := tb8 (List.mem_of_getElem? (i := 77) rfl) rfl
theorem wp_125 : Cond.selects RX10 yX10_granted yX10_granted ∈ WALL := tbS (List.mem_of_getElem? (i := 125) rfl)
theorem wl_8_78 : Cond.code yX10_granted cX10_granted 1 (some .boolean) ∈ WALL := tb8 (List.mem_of_getElem? (i := 78) rfl) rfl
theorem wl_8_71 : Cond.methodLink RX10 504 yX10_denied ∈ WALL := tb8 (List.mem_of_getElem? (i := 71) rfl) rfl
theorem wl_8_73 : Cond.instanceMethod yX10_denied ∈ WALL := tb8 (List.mem_of_getElem? (i := 73) rfl) rfl
theorem wp_124 : Cond.selects RX10 yX10_denied yX10_denied ∈ WALL := tbS (List.mem_of_getElem? (i := 124) rfl)
theorem wl_8_74 : Cond.code yX10_denied cX10_denied 2 (some .boolean) ∈ WALL := tb8 (List.mem_of_getElem? (i := 74) rfl) rfl
theorem hd_X10_anew : yX10_anew.cls ≠ "java/lang/invoke/MethodHandle" ∧ yX10_anew.cls ≠ "java/lang/invoke/VarHandle" ∧ (parseMethodDescriptor yX10_anew.desc).map (fun d => d.parameters.length) = some 0 := by decide +kernel
set_option maxRecDepth 100000 in
set_option maxHeartbeats 4000000 in
theorem M_X10_anew (l : Launch) : MtS l yX10_anew (Cond.code yX10_anew cX10_anew 2 (some .boolean) :: WALL) { frames := 8, cells := 0, slots := 0, locals := 195 } [20] (some 0) T_X10_anew := by
  refine MtS.mk (B := E_X10_anew) (by decide +kernel) (by decide) (fun _ _ _ hh => hh) ?_
  intro X Q e1 e2 e3 hC hN hT
  subst e1
  have hC : CF X cX10_anew RX10 WALL := hC
  refine (?_ : SdS X 0 [(0, 20)] [] (E_X10_anew Q))
  unfold E_X10_anew
  refine su_aload_n hC 20 dX10_anew_0 rfl (by decide) (by decide) (?_ : SdS X 1 [(0, 20)] [20] _)
  refine su_iconst hC dX10_anew_1 ⟨by decide, by decide⟩ (?_ : SdS X 2 [(0, 20)] [0, 20] _)
  refine su_putF hC (ci := 10) (j := 0) (C := RX10) (T := TX10) (N := 45) tyX10 tyX10_ok nmX10 rfl rfl (by decide) in_X10 rfl rfl wl_5_164 rfl dX10_anew_2 (?_ : SdS X 5 [(0, 20)] [] _)
  refine su_aload_n hC 20 dX10_anew_5 rfl (by decide) (by decide) (?_ : SdS X 6 [(0, 20)] [20] _)
  refine su_getR hC (ci := 10) (j := 3) (C := RX10) (T := TX10) (N := 45) rfl rfl (by decide) in_X10 wl_5_167 rfl dX10_anew_6 (?_ : SdS X 9 [(0, 20)] [19] _)
  refine su_ifnonnull (tgt := 18) hC (by decide) dX10_anew_9 rfl (?_ : SdS X 18 [(0, 20)] [] _) (?_ : SdS X 12 [(0, 20)] [] _)
  · refine su_aload_n hC 20 dX10_anew_18 rfl (by decide) (by decide) (?_ : SdS X 19 [(0, 20)] [20] _)
    refine su_getF hC (ci := 10) (j := 39) (C := RX10) (T := TX10) (N := 45) rfl rfl (by decide) in_X10 wl_5_203 rfl dX10_anew_19 (?_ : SdS X 22 [(0, 20)] [0] _)
    refine su_istore_n (Γ' := [(0, 20), (1, 0)]) hC dX10_anew_22 rfl (by rw [e2]; decide) (by decide) (?_ : SdS X 23 [(0, 20), (1, 0)] [] _)
    refine su_aload_n hC 20 dX10_anew_23 rfl (by decide) (by decide) (?_ : SdS X 24 [(0, 20), (1, 0)] [20] _)
    refine su_inv0v (τ := []) (τr := []) (ci := 10) (q := (RX10, TX10, 45)) hC WG (M_X10_dawns _) rfl rfl rfl rfl  rfl rfl wl_7_87 wl_7_89 wp_86 wl_1_10 wl_7_90 hd_X10_dawns (by rw [e3]; decide) (by decide) dX10_anew_24 (?_ : SdS X 27 [(0, 20), (1, 0)] [] _)
    refine su_aload_n hC 20 dX10_anew_27 rfl (by decide) (by decide) (?_ : SdS X 28 [(0, 20), (1, 0)] [20] _)
    refine su_iload_n hC dX10_anew_28 rfl (by decide) (?_ : SdS X 29 [(0, 20), (1, 0)] [0, 20] _)
    refine su_putF hC (ci := 10) (j := 39) (C := RX10) (T := TX10) (N := 45) tyX10 tyX10_ok nmX10 rfl rfl (by decide) in_X10 rfl rfl wl_5_203 rfl dX10_anew_29 (?_ : SdS X 32 [(0, 20), (1, 0)] [] _)
    refine su_aload_n hC 20 dX10_anew_32 rfl (by decide) (by decide) (?_ : SdS X 33 [(0, 20), (1, 0)] [20] _)
    refine su_inv0 (τ := []) (τr := []) (ci := 10) (q := (RX10, TX10, 45)) hC WG (M_X10_granted _) rfl rfl rfl rfl  rfl rfl wl_8_75 wl_8_77 wp_125 wl_1_10 wl_8_78 hd_X10_granted (by rw [e3]; decide) (by decide) dX10_anew_33 (?_ : SdS X 36 [(0, 20), (1, 0)] [0] _)
    exact su_zreturn hC hT dX10_anew_36
  · refine su_aload_n hC 20 dX10_anew_12 rfl (by decide) (by decide) (?_ : SdS X 13 [(0, 20)] [20] _)
    refine su_iconst hC dX10_anew_13 ⟨by decide, by decide⟩ (?_ : SdS X 14 [(0, 20)] [0, 20] _)
    refine su_inv0 (τ := []) (τr := [0]) (ci := 10) (q := (RX10, TX10, 45)) hC WG (M_X10_denied _) rfl rfl rfl rfl  rfl rfl wl_8_71 wl_8_73 wp_124 wl_1_10 wl_8_74 hd_X10_denied (by rw [e3]; decide) (by decide) dX10_anew_14 (?_ : SdS X 17 [(0, 20)] [0] _)
    exact su_zreturn hC hT dX10_anew_17
theorem hd_X10_isGood : yX10_isGood.cls ≠ "java/lang/invoke/MethodHandle" ∧ yX10_isGood.cls ≠ "java/lang/invoke/VarHandle" ∧ (parseMethodDescriptor yX10_isGood.desc).map (fun d => d.parameters.length) = some 1 := by decide +kernel
set_option maxRecDepth 100000 in
set_option maxHeartbeats 4000000 in
theorem M_X10_isGood (l : Launch) : MtS l yX10_isGood (Cond.code yX10_isGood cX10_isGood 2 (some .boolean) :: WALL) { frames := 0, cells := 0, slots := 0, locals := 0 } [20, 0] (some 0) T_X10_isGood := by
  refine MtS.mk (B := E_X10_isGood) (by decide +kernel) (by decide) (fun _ _ _ hh => hh) ?_
  intro X Q e1 e2 e3 hC hN hT
  subst e1
  have hC : CF X cX10_isGood RX10 WALL := hC
  have S_27 : SdS X 27 [(0, 20), (1, 0)] [0] (B_X10_isGood_27 Q) := by
    unfold B_X10_isGood_27
    exact su_zreturn hC hT dX10_isGood_27
  have S_26 : SdS X 26 [(0, 20), (1, 0)] [] (B_X10_isGood_26 Q) := by
    unfold B_X10_isGood_26
    refine su_iconst hC dX10_isGood_26 ⟨by decide, by decide⟩ (?_ : SdS X 27 [(0, 20), (1, 0)] [0] _)
    exact SdS.weak (by decide) (S_27)
  refine (?_ : SdS X 0 [(0, 20), (1, 0)] [] (E_X10_isGood Q))
  unfold E_X10_isGood
  refine su_aload_n hC 20 dX10_isGood_0 rfl (by decide) (by decide) (?_ : SdS X 1 [(0, 20), (1, 0)] [20] _)
  refine su_getR hC (ci := 10) (j := 3) (C := RX10) (T := TX10) (N := 45) rfl rfl (by decide) in_X10 wl_5_167 rfl dX10_isGood_1 (?_ : SdS X 4 [(0, 20), (1, 0)] [19] _)
  refine su_ifnull (tgt := 26) hC (by decide) dX10_isGood_4 rfl (?_ : SdS X 26 [(0, 20), (1, 0)] [] _) (?_ : SdS X 7 [(0, 20), (1, 0)] [] _)
  · exact SdS.weak (by decide) (S_26)
  · refine su_iload_n hC dX10_isGood_7 rfl (by decide) (?_ : SdS X 8 [(0, 20), (1, 0)] [0] _)
    refine su_if_lt (tgt := 26) hC dX10_isGood_8 rfl (?_ : SdS X 26 [(0, 20), (1, 0)] [] _) (?_ : SdS X 11 [(0, 20), (1, 0)] [] _)
    · exact SdS.weak (by decide) (S_26)
    · refine su_iload_n hC dX10_isGood_11 rfl (by decide) (?_ : SdS X 12 [(0, 20), (1, 0)] [0] _)
      refine su_aload_n hC 20 dX10_isGood_12 rfl (by decide) (by decide) (?_ : SdS X 13 [(0, 20), (1, 0)] [20, 0] _)
      refine su_getR hC (ci := 10) (j := 3) (C := RX10) (T := TX10) (N := 45) rfl rfl (by decide) in_X10 wl_5_167 rfl dX10_isGood_13 (?_ : SdS X 16 [(0, 20), (1, 0)] [19, 0] _)
      refine su_getFN hC (ci := 9) (j := 3) (C := RX9) (T := TX9) (N := 28) (host := "NarrowRingsModel") rfl rfl (by decide) in_X9 (by decide) rfl dX10_isGood_16 (?_ : SdS X 19 [(0, 20), (1, 0)] [0, 0] _)
      refine su_icmp_ge (tgt := 26) hC dX10_isGood_19 rfl (?_ : SdS X 26 [(0, 20), (1, 0)] [] _) (?_ : SdS X 22 [(0, 20), (1, 0)] [] _)
      · exact SdS.weak (by decide) (S_26)
      · refine su_iconst hC dX10_isGood_22 ⟨by decide, by decide⟩ (?_ : SdS X 23 [(0, 20), (1, 0)] [0] _)
        refine su_goto (tgt := 27) hC dX10_isGood_23 rfl (?_ : SdS X 27 [(0, 20), (1, 0)] [0] _)
        exact SdS.weak (by decide) (S_27)
theorem hd_X10_isRing : yX10_isRing.cls ≠ "java/lang/invoke/MethodHandle" ∧ yX10_isRing.cls ≠ "java/lang/invoke/VarHandle" ∧ (parseMethodDescriptor yX10_isRing.desc).map (fun d => d.parameters.length) = some 1 := by decide +kernel
set_option maxRecDepth 100000 in
set_option maxHeartbeats 4000000 in
theorem M_X10_isRing (l : Launch) : MtS l yX10_isRing (Cond.code yX10_isRing cX10_isRing 2 (some .boolean) :: WALL) { frames := 0, cells := 0, slots := 0, locals := 0 } [20, 0] (some 0) T_X10_isRing := by
  refine MtS.mk (B := E_X10_isRing) (by decide +kernel) (by decide) (fun _ _ _ hh => hh) ?_
  intro X Q e1 e2 e3 hC hN hT
  subst e1
  have hC : CF X cX10_isRing RX10 WALL := hC
  have S_27 : SdS X 27 [(0, 20), (1, 0)] [0] (B_X10_isRing_27 Q) := by
    unfold B_X10_isRing_27
    exact su_zreturn hC hT dX10_isRing_27
  have S_26 : SdS X 26 [(0, 20), (1, 0)] [] (B_X10_isRing_26 Q) := by
    unfold B_X10_isRing_26
    refine su_iconst hC dX10_isRing_26 ⟨by decide, by decide⟩ (?_ : SdS X 27 [(0, 20), (1, 0)] [0] _)
    exact SdS.weak (by decide) (S_27)
  refine (?_ : SdS X 0 [(0, 20), (1, 0)] [] (E_X10_isRing Q))
  unfold E_X10_isRing
  refine su_aload_n hC 20 dX10_isRing_0 rfl (by decide) (by decide) (?_ : SdS X 1 [(0, 20), (1, 0)] [20] _)
  refine su_getR hC (ci := 10) (j := 3) (C := RX10) (T := TX10) (N := 45) rfl rfl (by decide) in_X10 wl_5_167 rfl dX10_isRing_1 (?_ : SdS X 4 [(0, 20), (1, 0)] [19] _)
  refine su_ifnull (tgt := 26) hC (by decide) dX10_isRing_4 rfl (?_ : SdS X 26 [(0, 20), (1, 0)] [] _) (?_ : SdS X 7 [(0, 20), (1, 0)] [] _)
  · exact SdS.weak (by decide) (S_26)
  · refine su_iload_n hC dX10_isRing_7 rfl (by decide) (?_ : SdS X 8 [(0, 20), (1, 0)] [0] _)
    refine su_if_lt (tgt := 26) hC dX10_isRing_8 rfl (?_ : SdS X 26 [(0, 20), (1, 0)] [] _) (?_ : SdS X 11 [(0, 20), (1, 0)] [] _)
    · exact SdS.weak (by decide) (S_26)
    · refine su_iload_n hC dX10_isRing_11 rfl (by decide) (?_ : SdS X 12 [(0, 20), (1, 0)] [0] _)
      refine su_aload_n hC 20 dX10_isRing_12 rfl (by decide) (by decide) (?_ : SdS X 13 [(0, 20), (1, 0)] [20, 0] _)
      refine su_getR hC (ci := 10) (j := 3) (C := RX10) (T := TX10) (N := 45) rfl rfl (by decide) in_X10 wl_5_167 rfl dX10_isRing_13 (?_ : SdS X 16 [(0, 20), (1, 0)] [19, 0] _)
      refine su_getFN hC (ci := 9) (j := 0) (C := RX9) (T := TX9) (N := 28) (host := "NarrowRingsModel") rfl rfl (by decide) in_X9 (by decide) rfl dX10_isRing_16 (?_ : SdS X 19 [(0, 20), (1, 0)] [0, 0] _)
      refine su_icmp_ge (tgt := 26) hC dX10_isRing_19 rfl (?_ : SdS X 26 [(0, 20), (1, 0)] [] _) (?_ : SdS X 22 [(0, 20), (1, 0)] [] _)
      · exact SdS.weak (by decide) (S_26)
      · refine su_iconst hC dX10_isRing_22 ⟨by decide, by decide⟩ (?_ : SdS X 23 [(0, 20), (1, 0)] [0] _)
        refine su_goto (tgt := 27) hC dX10_isRing_23 rfl (?_ : SdS X 27 [(0, 20), (1, 0)] [0] _)
        exact SdS.weak (by decide) (S_27)
theorem hd_X10_in : yX10_in.cls ≠ "java/lang/invoke/MethodHandle" ∧ yX10_in.cls ≠ "java/lang/invoke/VarHandle" ∧ (parseMethodDescriptor yX10_in.desc).map (fun d => d.parameters.length) = some 3 := by decide +kernel
set_option maxRecDepth 100000 in
set_option maxHeartbeats 4000000 in
theorem M_X10_in (l : Launch) : MtS l yX10_in (Cond.code yX10_in cX10_in 3 (some .boolean) :: WALL) { frames := 0, cells := 0, slots := 0, locals := 0 } [0, 0, 0] (some 0) T_X10_in := by
  refine MtS.mk (B := E_X10_in) (by decide +kernel) (by decide) (fun _ _ _ hh => hh) ?_
  intro X Q e1 e2 e3 hC hN hT
  subst e1
  have hC : CF X cX10_in RX10 WALL := hC
  have S_15 : SdS X 15 [(0, 0), (1, 0), (2, 0)] [0] (B_X10_in_15 Q) := by
    unfold B_X10_in_15
    exact su_zreturn hC hT dX10_in_15
  have S_14 : SdS X 14 [(0, 0), (1, 0), (2, 0)] [] (B_X10_in_14 Q) := by
    unfold B_X10_in_14
    refine su_iconst hC dX10_in_14 ⟨by decide, by decide⟩ (?_ : SdS X 15 [(0, 0), (1, 0), (2, 0)] [0] _)
    exact SdS.weak (by decide) (S_15)
  refine (?_ : SdS X 0 [(0, 0), (1, 0), (2, 0)] [] (E_X10_in Q))
  unfold E_X10_in
  refine su_iload_n hC dX10_in_0 rfl (by decide) (?_ : SdS X 1 [(0, 0), (1, 0), (2, 0)] [0] _)
  refine su_iload_n hC dX10_in_1 rfl (by decide) (?_ : SdS X 2 [(0, 0), (1, 0), (2, 0)] [0, 0] _)
  refine su_icmp_lt (tgt := 14) hC dX10_in_2 rfl (?_ : SdS X 14 [(0, 0), (1, 0), (2, 0)] [] _) (?_ : SdS X 5 [(0, 0), (1, 0), (2, 0)] [] _)
  · exact SdS.weak (by decide) (S_14)
  · refine su_iload_n hC dX10_in_5 rfl (by decide) (?_ : SdS X 6 [(0, 0), (1, 0), (2, 0)] [0] _)
    refine su_iload_n hC dX10_in_6 rfl (by decide) (?_ : SdS X 7 [(0, 0), (1, 0), (2, 0)] [0, 0] _)
    refine su_icmp_gt (tgt := 14) hC dX10_in_7 rfl (?_ : SdS X 14 [(0, 0), (1, 0), (2, 0)] [] _) (?_ : SdS X 10 [(0, 0), (1, 0), (2, 0)] [] _)
    · exact SdS.weak (by decide) (S_14)
    · refine su_iconst hC dX10_in_10 ⟨by decide, by decide⟩ (?_ : SdS X 11 [(0, 0), (1, 0), (2, 0)] [0] _)
      refine su_goto (tgt := 15) hC dX10_in_11 rfl (?_ : SdS X 15 [(0, 0), (1, 0), (2, 0)] [0] _)
      exact SdS.weak (by decide) (S_15)
theorem wl_7_195 : Cond.methodLink RX10 390 yX10_isGood ∈ WALL := tb7 (List.mem_of_getElem? (i := 195) rfl) rfl
theorem wl_7_197 : Cond.instanceMethod yX10_isGood ∈ WALL := tb7 (List.mem_of_getElem? (i := 197) rfl) rfl
theorem wp_107 : Cond.selects RX10 yX10_isGood yX10_isGood ∈ WALL := tbS (List.mem_of_getElem? (i := 107) rfl)
theorem wl_7_198 : Cond.code yX10_isGood cX10_isGood 2 (some .boolean) ∈ WALL := tb7 (List.mem_of_getElem? (i := 198) rfl) rfl
theorem wl_7_199 : Cond.methodLink RX10 393 yX10_isRing ∈ WALL := tb7 (List.mem_of_getElem? (i := 199) rfl) rfl
theorem wl_7_201 : Cond.instanceMethod yX10_isRing ∈ WALL := tb7 (List.mem_of_getElem? (i := 201) rfl) rfl
theorem wp_108 : Cond.selects RX10 yX10_isRing yX10_isRing ∈ WALL := tbS (List.mem_of_getElem? (i := 108) rfl)
theorem wl_7_202 : Cond.code yX10_isRing cX10_isRing 2 (some .boolean) ∈ WALL := tb7 (List.mem_of_getElem? (i := 202) rfl) rfl
theorem wl_6_238 : Cond.methodLink RX10 139 yX10_in ∈ WALL := tb6 (List.mem_of_getElem? (i := 238) rfl) rfl
theorem wl_6_239 : Cond.static yX10_in ∈ WALL := tb6 (List.mem_of_getElem? (i := 239) rfl) rfl
theorem wl_7_0 : Cond.code yX10_in cX10_in 3 (some .boolean) ∈ WALL := tb7 (List.mem_of_getElem? (i := 0) rfl) rfl
theorem hd_X10_areTold : yX10_areTold.cls ≠ "java/lang/invoke/MethodHandle" ∧ yX10_areTold.cls ≠ "java/lang/invoke/VarHandle" ∧ (parseMethodDescriptor yX10_areTold.desc).map (fun d => d.parameters.length) = some 5 := by decide +kernel
set_option maxRecDepth 100000 in
set_option maxHeartbeats 4000000 in
theorem M_X10_areTold (l : Launch) : MtS l yX10_areTold (Cond.code yX10_areTold cX10_areTold 6 (some .boolean) :: WALL) { frames := 1, cells := 0, slots := 0, locals := 22 } [20, 0, 0, 0, 0, 0] (some 0) T_X10_areTold := by
  refine MtS.mk (B := E_X10_areTold) (by decide +kernel) (by decide) (fun _ _ _ hh => hh) ?_
  intro X Q e1 e2 e3 hC hN hT
  subst e1
  have hC : CF X cX10_areTold RX10 WALL := hC
  have S_51 : SdS X 51 [(0, 20), (1, 0), (2, 0), (3, 0), (4, 0), (5, 0)] [0] (B_X10_areTold_51 Q) := by
    unfold B_X10_areTold_51
    exact su_zreturn hC hT dX10_areTold_51
  have S_50 : SdS X 50 [(0, 20), (1, 0), (2, 0), (3, 0), (4, 0), (5, 0)] [] (B_X10_areTold_50 Q) := by
    unfold B_X10_areTold_50
    refine su_iconst hC dX10_areTold_50 ⟨by decide, by decide⟩ (?_ : SdS X 51 [(0, 20), (1, 0), (2, 0), (3, 0), (4, 0), (5, 0)] [0] _)
    exact SdS.weak (by decide) (S_51)
  refine (?_ : SdS X 0 [(0, 20), (1, 0), (2, 0), (3, 0), (4, 0), (5, 0)] [] (E_X10_areTold Q))
  unfold E_X10_areTold
  refine su_aload_n hC 20 dX10_areTold_0 rfl (by decide) (by decide) (?_ : SdS X 1 [(0, 20), (1, 0), (2, 0), (3, 0), (4, 0), (5, 0)] [20] _)
  refine su_iload_n hC dX10_areTold_1 rfl (by decide) (?_ : SdS X 2 [(0, 20), (1, 0), (2, 0), (3, 0), (4, 0), (5, 0)] [0, 20] _)
  refine su_inv0 (τ := []) (τr := [0]) (ci := 10) (q := (RX10, TX10, 45)) hC WG (M_X10_isGood _) rfl rfl rfl rfl  rfl rfl wl_7_195 wl_7_197 wp_107 wl_1_10 wl_7_198 hd_X10_isGood (by rw [e3]; decide) (by decide) dX10_areTold_2 (?_ : SdS X 5 [(0, 20), (1, 0), (2, 0), (3, 0), (4, 0), (5, 0)] [0] _)
  refine su_if_eq (tgt := 50) hC dX10_areTold_5 rfl (?_ : SdS X 50 [(0, 20), (1, 0), (2, 0), (3, 0), (4, 0), (5, 0)] [] _) (?_ : SdS X 8 [(0, 20), (1, 0), (2, 0), (3, 0), (4, 0), (5, 0)] [] _)
  · exact SdS.weak (by decide) (S_50)
  · refine su_aload_n hC 20 dX10_areTold_8 rfl (by decide) (by decide) (?_ : SdS X 9 [(0, 20), (1, 0), (2, 0), (3, 0), (4, 0), (5, 0)] [20] _)
    refine su_iload_n hC dX10_areTold_9 rfl (by decide) (?_ : SdS X 10 [(0, 20), (1, 0), (2, 0), (3, 0), (4, 0), (5, 0)] [0, 20] _)
    refine su_inv0 (τ := []) (τr := [0]) (ci := 10) (q := (RX10, TX10, 45)) hC WG (M_X10_isRing _) rfl rfl rfl rfl  rfl rfl wl_7_199 wl_7_201 wp_108 wl_1_10 wl_7_202 hd_X10_isRing (by rw [e3]; decide) (by decide) dX10_areTold_10 (?_ : SdS X 13 [(0, 20), (1, 0), (2, 0), (3, 0), (4, 0), (5, 0)] [0] _)
    refine su_if_eq (tgt := 50) hC dX10_areTold_13 rfl (?_ : SdS X 50 [(0, 20), (1, 0), (2, 0), (3, 0), (4, 0), (5, 0)] [] _) (?_ : SdS X 16 [(0, 20), (1, 0), (2, 0), (3, 0), (4, 0), (5, 0)] [] _)
    · exact SdS.weak (by decide) (S_50)
    · refine su_aload_n hC 20 dX10_areTold_16 rfl (by decide) (by decide) (?_ : SdS X 17 [(0, 20), (1, 0), (2, 0), (3, 0), (4, 0), (5, 0)] [20] _)
      refine su_iload hC dX10_areTold_17 (by decide) (?_ : SdS X 19 [(0, 20), (1, 0), (2, 0), (3, 0), (4, 0), (5, 0)] [0, 20] _)
      refine su_inv0 (τ := []) (τr := [0]) (ci := 10) (q := (RX10, TX10, 45)) hC WG (M_X10_isRing _) rfl rfl rfl rfl  rfl rfl wl_7_199 wl_7_201 wp_108 wl_1_10 wl_7_202 hd_X10_isRing (by rw [e3]; decide) (by decide) dX10_areTold_19 (?_ : SdS X 22 [(0, 20), (1, 0), (2, 0), (3, 0), (4, 0), (5, 0)] [0] _)
      refine su_if_eq (tgt := 50) hC dX10_areTold_22 rfl (?_ : SdS X 50 [(0, 20), (1, 0), (2, 0), (3, 0), (4, 0), (5, 0)] [] _) (?_ : SdS X 25 [(0, 20), (1, 0), (2, 0), (3, 0), (4, 0), (5, 0)] [] _)
      · exact SdS.weak (by decide) (S_50)
      · refine su_iload_n hC dX10_areTold_25 rfl (by decide) (?_ : SdS X 26 [(0, 20), (1, 0), (2, 0), (3, 0), (4, 0), (5, 0)] [0] _)
        refine su_iconst hC dX10_areTold_26 ⟨by decide, by decide⟩ (?_ : SdS X 27 [(0, 20), (1, 0), (2, 0), (3, 0), (4, 0), (5, 0)] [0, 0] _)
        refine su_bipush hC dX10_areTold_27 (by decide) (?_ : SdS X 29 [(0, 20), (1, 0), (2, 0), (3, 0), (4, 0), (5, 0)] [0, 0, 0] _)
        refine su_invs (τ := []) (τs := [0, 0, 0]) hC false "" WG (M_X10_in _) rfl rfl rfl rfl wl_6_238 wl_6_239 wl_1_10 wl_7_0 hd_X10_in (by rw [e3]; decide) (by decide) dX10_areTold_29 (?_ : SdS X 32 [(0, 20), (1, 0), (2, 0), (3, 0), (4, 0), (5, 0)] [0] _)
        refine su_if_eq (tgt := 50) hC dX10_areTold_32 rfl (?_ : SdS X 50 [(0, 20), (1, 0), (2, 0), (3, 0), (4, 0), (5, 0)] [] _) (?_ : SdS X 35 [(0, 20), (1, 0), (2, 0), (3, 0), (4, 0), (5, 0)] [] _)
        · exact SdS.weak (by decide) (S_50)
        · refine su_iload hC dX10_areTold_35 (by decide) (?_ : SdS X 37 [(0, 20), (1, 0), (2, 0), (3, 0), (4, 0), (5, 0)] [0] _)
          refine su_iconst hC dX10_areTold_37 ⟨by decide, by decide⟩ (?_ : SdS X 38 [(0, 20), (1, 0), (2, 0), (3, 0), (4, 0), (5, 0)] [0, 0] _)
          refine su_bipush hC dX10_areTold_38 (by decide) (?_ : SdS X 40 [(0, 20), (1, 0), (2, 0), (3, 0), (4, 0), (5, 0)] [0, 0, 0] _)
          refine su_invs (τ := []) (τs := [0, 0, 0]) hC false "" WG (M_X10_in _) rfl rfl rfl rfl wl_6_238 wl_6_239 wl_1_10 wl_7_0 hd_X10_in (by rw [e3]; decide) (by decide) dX10_areTold_40 (?_ : SdS X 43 [(0, 20), (1, 0), (2, 0), (3, 0), (4, 0), (5, 0)] [0] _)
          refine su_if_eq (tgt := 50) hC dX10_areTold_43 rfl (?_ : SdS X 50 [(0, 20), (1, 0), (2, 0), (3, 0), (4, 0), (5, 0)] [] _) (?_ : SdS X 46 [(0, 20), (1, 0), (2, 0), (3, 0), (4, 0), (5, 0)] [] _)
          · exact SdS.weak (by decide) (S_50)
          · refine su_iconst hC dX10_areTold_46 ⟨by decide, by decide⟩ (?_ : SdS X 47 [(0, 20), (1, 0), (2, 0), (3, 0), (4, 0), (5, 0)] [0] _)
            refine su_goto (tgt := 51) hC dX10_areTold_47 rfl (?_ : SdS X 51 [(0, 20), (1, 0), (2, 0), (3, 0), (4, 0), (5, 0)] [0] _)
            exact SdS.weak (by decide) (S_51)
theorem wl_5_197 : Cond.fieldLink RX10 34 "NarrowRingsModel" "kept" "[I" ∈ WALL := tb5 (List.mem_of_getElem? (i := 197) rfl) rfl
theorem hd_X10_back : yX10_back.cls ≠ "java/lang/invoke/MethodHandle" ∧ yX10_back.cls ≠ "java/lang/invoke/VarHandle" ∧ (parseMethodDescriptor yX10_back.desc).map (fun d => d.parameters.length) = some 1 := by decide +kernel
set_option maxRecDepth 100000 in
set_option maxHeartbeats 4000000 in
theorem M_X10_back (l : Launch) : MtS l yX10_back (Cond.code yX10_back cX10_back 3 (some .boolean) :: WALL) { frames := 2, cells := 0, slots := 0, locals := 42 } [20, 0] (some 0) T_X10_back := by
  refine MtS.mk (B := E_X10_back) (by decide +kernel) (by decide) (fun _ _ _ hh => hh) ?_
  intro X Q e1 e2 e3 hC hN hT
  subst e1
  have hC : CF X cX10_back RX10 WALL := hC
  have S_24 : SdS X 24 [(0, 20), (1, 0)] [] (B_X10_back_24 Q) := by
    unfold B_X10_back_24
    refine su_aload_n hC 20 dX10_back_24 rfl (by decide) (by decide) (?_ : SdS X 25 [(0, 20), (1, 0)] [20] _)
    refine su_iconst hC dX10_back_25 ⟨by decide, by decide⟩ (?_ : SdS X 26 [(0, 20), (1, 0)] [0, 20] _)
    refine su_inv0 (τ := []) (τr := [0]) (ci := 10) (q := (RX10, TX10, 45)) hC WG (M_X10_denied _) rfl rfl rfl rfl  rfl rfl wl_8_71 wl_8_73 wp_124 wl_1_10 wl_8_74 hd_X10_denied (by rw [e3]; decide) (by decide) dX10_back_26 (?_ : SdS X 29 [(0, 20), (1, 0)] [0] _)
    exact su_zreturn hC hT dX10_back_29
  have S_32 : SdS X 32 [(0, 20), (1, 0), (2, 0)] [] (L_X10_back_32 Q) := by
    unfold L_X10_back_32
    refine SdS.loop (fun k32 h32 => ?_)
    refine su_iload_n hC dX10_back_32 rfl (by decide) (?_ : SdS X 33 [(0, 20), (1, 0), (2, 0)] [0] _)
    refine su_sipush hC dX10_back_33 (by decide) (?_ : SdS X 36 [(0, 20), (1, 0), (2, 0)] [0, 0] _)
    refine su_icmp_ge (tgt := 63) hC dX10_back_36 rfl (?_ : SdS X 63 [(0, 20), (1, 0), (2, 0)] [] _) (?_ : SdS X 39 [(0, 20), (1, 0), (2, 0)] [] _)
    · refine su_aload_n hC 20 dX10_back_63 rfl (by decide) (by decide) (?_ : SdS X 64 [(0, 20), (1, 0), (2, 0)] [20] _)
      refine su_inv0 (τ := []) (τr := []) (ci := 10) (q := (RX10, TX10, 45)) hC WG (M_X10_granted _) rfl rfl rfl rfl  rfl rfl wl_8_75 wl_8_77 wp_125 wl_1_10 wl_8_78 hd_X10_granted (by rw [e3]; decide) (by decide) dX10_back_64 (?_ : SdS X 67 [(0, 20), (1, 0), (2, 0)] [0] _)
      exact su_zreturn hC hT dX10_back_67
    · refine su_aload_n hC 20 dX10_back_39 rfl (by decide) (by decide) (?_ : SdS X 40 [(0, 20), (1, 0), (2, 0)] [20] _)
      refine su_getR hC (ci := 10) (j := 32) (C := RX10) (T := TX10) (N := 45) rfl rfl (by decide) in_X10 wl_5_196 rfl dX10_back_40 (?_ : SdS X 43 [(0, 20), (1, 0), (2, 0)] [100] _)
      refine su_iload_n hC dX10_back_43 rfl (by decide) (?_ : SdS X 44 [(0, 20), (1, 0), (2, 0)] [0, 100] _)
      refine su_aload_n hC 20 dX10_back_44 rfl (by decide) (by decide) (?_ : SdS X 45 [(0, 20), (1, 0), (2, 0)] [20, 0, 100] _)
      refine su_getR hC (ci := 10) (j := 33) (C := RX10) (T := TX10) (N := 45) rfl rfl (by decide) in_X10 wl_5_197 rfl dX10_back_45 (?_ : SdS X 48 [(0, 20), (1, 0), (2, 0)] [100, 0, 100] _)
      refine su_sipush hC dX10_back_48 (by decide) (?_ : SdS X 51 [(0, 20), (1, 0), (2, 0)] [0, 100, 0, 100] _)
      refine su_iload_n hC dX10_back_51 rfl (by decide) (?_ : SdS X 52 [(0, 20), (1, 0), (2, 0)] [0, 0, 100, 0, 100] _)
      refine su_imul hC dX10_back_52 (?_ : SdS X 53 [(0, 20), (1, 0), (2, 0)] [0, 100, 0, 100] _)
      refine su_iload_n hC dX10_back_53 rfl (by decide) (?_ : SdS X 54 [(0, 20), (1, 0), (2, 0)] [0, 0, 100, 0, 100] _)
      refine su_iadd hC dX10_back_54 (?_ : SdS X 55 [(0, 20), (1, 0), (2, 0)] [0, 100, 0, 100] _)
      refine su_iaload hC dX10_back_55 (?_ : SdS X 56 [(0, 20), (1, 0), (2, 0)] [0, 0, 100] _)
      refine su_iastore hC dX10_back_56 (?_ : SdS X 57 [(0, 20), (1, 0), (2, 0)] [] _)
      refine su_iinc (Γ' := [(0, 20), (1, 0), (2, 0)]) hC dX10_back_57 (by decide) (by rw [e2]; decide) (by decide) (?_ : SdS X 60 [(0, 20), (1, 0), (2, 0)] [] _)
      refine su_goto (tgt := 32) hC dX10_back_60 rfl (?_ : SdS X 32 [(0, 20), (1, 0), (2, 0)] [] _)
      exact SdS.weak (by decide) h32
  refine (?_ : SdS X 0 [(0, 20), (1, 0)] [] (E_X10_back Q))
  unfold E_X10_back
  refine su_aload_n hC 20 dX10_back_0 rfl (by decide) (by decide) (?_ : SdS X 1 [(0, 20), (1, 0)] [20] _)
  refine su_iconst hC dX10_back_1 ⟨by decide, by decide⟩ (?_ : SdS X 2 [(0, 20), (1, 0)] [0, 20] _)
  refine su_putF hC (ci := 10) (j := 0) (C := RX10) (T := TX10) (N := 45) tyX10 tyX10_ok nmX10 rfl rfl (by decide) in_X10 rfl rfl wl_5_164 rfl dX10_back_2 (?_ : SdS X 5 [(0, 20), (1, 0)] [] _)
  refine su_aload_n hC 20 dX10_back_5 rfl (by decide) (by decide) (?_ : SdS X 6 [(0, 20), (1, 0)] [20] _)
  refine su_getR hC (ci := 10) (j := 3) (C := RX10) (T := TX10) (N := 45) rfl rfl (by decide) in_X10 wl_5_167 rfl dX10_back_6 (?_ : SdS X 9 [(0, 20), (1, 0)] [19] _)
  refine su_ifnull (tgt := 24) hC (by decide) dX10_back_9 rfl (?_ : SdS X 24 [(0, 20), (1, 0)] [] _) (?_ : SdS X 12 [(0, 20), (1, 0)] [] _)
  · exact SdS.weak (by decide) (S_24)
  · refine su_iload_n hC dX10_back_12 rfl (by decide) (?_ : SdS X 13 [(0, 20), (1, 0)] [0] _)
    refine su_if_lt (tgt := 24) hC dX10_back_13 rfl (?_ : SdS X 24 [(0, 20), (1, 0)] [] _) (?_ : SdS X 16 [(0, 20), (1, 0)] [] _)
    · exact SdS.weak (by decide) (S_24)
    · refine su_iload_n hC dX10_back_16 rfl (by decide) (?_ : SdS X 17 [(0, 20), (1, 0)] [0] _)
      refine su_aload_n hC 20 dX10_back_17 rfl (by decide) (by decide) (?_ : SdS X 18 [(0, 20), (1, 0)] [20, 0] _)
      refine su_getF hC (ci := 10) (j := 39) (C := RX10) (T := TX10) (N := 45) rfl rfl (by decide) in_X10 wl_5_203 rfl dX10_back_18 (?_ : SdS X 21 [(0, 20), (1, 0)] [0, 0] _)
      refine su_icmp_lt (tgt := 30) hC dX10_back_21 rfl (?_ : SdS X 30 [(0, 20), (1, 0)] [] _) (?_ : SdS X 24 [(0, 20), (1, 0)] [] _)
      · refine su_iconst hC dX10_back_30 ⟨by decide, by decide⟩ (?_ : SdS X 31 [(0, 20), (1, 0)] [0] _)
        refine su_istore_n (Γ' := [(0, 20), (1, 0), (2, 0)]) hC dX10_back_31 rfl (by rw [e2]; decide) (by decide) (?_ : SdS X 32 [(0, 20), (1, 0), (2, 0)] [] _)
        exact SdS.weak (by decide) (S_32)
      · exact SdS.weak (by decide) (S_24)
theorem hd_X10_isGate : yX10_isGate.cls ≠ "java/lang/invoke/MethodHandle" ∧ yX10_isGate.cls ≠ "java/lang/invoke/VarHandle" ∧ (parseMethodDescriptor yX10_isGate.desc).map (fun d => d.parameters.length) = some 1 := by decide +kernel
set_option maxRecDepth 100000 in
set_option maxHeartbeats 4000000 in
theorem M_X10_isGate (l : Launch) : MtS l yX10_isGate (Cond.code yX10_isGate cX10_isGate 2 (some .boolean) :: WALL) { frames := 0, cells := 0, slots := 0, locals := 0 } [20, 0] (some 0) T_X10_isGate := by
  refine MtS.mk (B := E_X10_isGate) (by decide +kernel) (by decide) (fun _ _ _ hh => hh) ?_
  intro X Q e1 e2 e3 hC hN hT
  subst e1
  have hC : CF X cX10_isGate RX10 WALL := hC
  have S_24 : SdS X 24 [(0, 20), (1, 0)] [0] (B_X10_isGate_24 Q) := by
    unfold B_X10_isGate_24
    exact su_zreturn hC hT dX10_isGate_24
  have S_23 : SdS X 23 [(0, 20), (1, 0)] [] (B_X10_isGate_23 Q) := by
    unfold B_X10_isGate_23
    refine su_iconst hC dX10_isGate_23 ⟨by decide, by decide⟩ (?_ : SdS X 24 [(0, 20), (1, 0)] [0] _)
    exact SdS.weak (by decide) (S_24)
  refine (?_ : SdS X 0 [(0, 20), (1, 0)] [] (E_X10_isGate Q))
  unfold E_X10_isGate
  refine su_aload_n hC 20 dX10_isGate_0 rfl (by decide) (by decide) (?_ : SdS X 1 [(0, 20), (1, 0)] [20] _)
  refine su_getR hC (ci := 10) (j := 3) (C := RX10) (T := TX10) (N := 45) rfl rfl (by decide) in_X10 wl_5_167 rfl dX10_isGate_1 (?_ : SdS X 4 [(0, 20), (1, 0)] [19] _)
  refine su_ifnull (tgt := 23) hC (by decide) dX10_isGate_4 rfl (?_ : SdS X 23 [(0, 20), (1, 0)] [] _) (?_ : SdS X 7 [(0, 20), (1, 0)] [] _)
  · exact SdS.weak (by decide) (S_23)
  · refine su_iload_n hC dX10_isGate_7 rfl (by decide) (?_ : SdS X 8 [(0, 20), (1, 0)] [0] _)
    refine su_if_lt (tgt := 23) hC dX10_isGate_8 rfl (?_ : SdS X 23 [(0, 20), (1, 0)] [] _) (?_ : SdS X 11 [(0, 20), (1, 0)] [] _)
    · exact SdS.weak (by decide) (S_23)
    · refine su_iload_n hC dX10_isGate_11 rfl (by decide) (?_ : SdS X 12 [(0, 20), (1, 0)] [0] _)
      refine su_aload_n hC 20 dX10_isGate_12 rfl (by decide) (by decide) (?_ : SdS X 13 [(0, 20), (1, 0)] [20, 0] _)
      refine su_getF hC (ci := 10) (j := 17) (C := RX10) (T := TX10) (N := 45) rfl rfl (by decide) in_X10 wl_5_181 rfl dX10_isGate_13 (?_ : SdS X 16 [(0, 20), (1, 0)] [0, 0] _)
      refine su_icmp_ge (tgt := 23) hC dX10_isGate_16 rfl (?_ : SdS X 23 [(0, 20), (1, 0)] [] _) (?_ : SdS X 19 [(0, 20), (1, 0)] [] _)
      · exact SdS.weak (by decide) (S_23)
      · refine su_iconst hC dX10_isGate_19 ⟨by decide, by decide⟩ (?_ : SdS X 20 [(0, 20), (1, 0)] [0] _)
        refine su_goto (tgt := 24) hC dX10_isGate_20 rfl (?_ : SdS X 24 [(0, 20), (1, 0)] [0] _)
        exact SdS.weak (by decide) (S_24)
theorem wl_7_187 : Cond.methodLink RX10 346 yX10_isGate ∈ WALL := tb7 (List.mem_of_getElem? (i := 187) rfl) rfl
theorem wl_7_189 : Cond.instanceMethod yX10_isGate ∈ WALL := tb7 (List.mem_of_getElem? (i := 189) rfl) rfl
theorem wp_106 : Cond.selects RX10 yX10_isGate yX10_isGate ∈ WALL := tbS (List.mem_of_getElem? (i := 106) rfl)
theorem wl_7_190 : Cond.code yX10_isGate cX10_isGate 2 (some .boolean) ∈ WALL := tb7 (List.mem_of_getElem? (i := 190) rfl) rfl
theorem hd_X10_bars : yX10_bars.cls ≠ "java/lang/invoke/MethodHandle" ∧ yX10_bars.cls ≠ "java/lang/invoke/VarHandle" ∧ (parseMethodDescriptor yX10_bars.desc).map (fun d => d.parameters.length) = some 3 := by decide +kernel
set_option maxRecDepth 100000 in
set_option maxHeartbeats 4000000 in
theorem M_X10_bars (l : Launch) : MtS l yX10_bars (Cond.code yX10_bars cX10_bars 4 (some .int) :: WALL) { frames := 3, cells := 0, slots := 0, locals := 69 } [20, 0, 0, 0] (some 0) T_X10_bars := by
  refine MtS.mk (B := E_X10_bars) (by decide +kernel) (by decide) (fun _ _ _ hh => hh) ?_
  intro X Q e1 e2 e3 hC hN hT
  subst e1
  have hC : CF X cX10_bars RX10 WALL := hC
  have S_21 : SdS X 21 [(0, 20), (1, 0), (2, 0), (3, 0)] [] (B_X10_bars_21 Q) := by
    unfold B_X10_bars_21
    refine su_aload_n hC 20 dX10_bars_21 rfl (by decide) (by decide) (?_ : SdS X 22 [(0, 20), (1, 0), (2, 0), (3, 0)] [20] _)
    refine su_iconst hC dX10_bars_22 ⟨by decide, by decide⟩ (?_ : SdS X 23 [(0, 20), (1, 0), (2, 0), (3, 0)] [0, 20] _)
    refine su_inv0 (τ := []) (τr := [0]) (ci := 10) (q := (RX10, TX10, 45)) hC WG (M_X10_refused _) rfl rfl rfl rfl  rfl rfl wl_6_72 wl_6_74 wp_63 wl_1_10 wl_6_75 hd_X10_refused (by rw [e3]; decide) (by decide) dX10_bars_23 (?_ : SdS X 26 [(0, 20), (1, 0), (2, 0), (3, 0)] [0] _)
    exact su_ireturn hC hT dX10_bars_26
  have S_45 : SdS X 45 [(0, 20), (1, 0), (2, 0), (3, 0)] [] (B_X10_bars_45 Q) := by
    unfold B_X10_bars_45
    refine su_aload_n hC 20 dX10_bars_45 rfl (by decide) (by decide) (?_ : SdS X 46 [(0, 20), (1, 0), (2, 0), (3, 0)] [20] _)
    refine su_iload_n hC dX10_bars_46 rfl (by decide) (?_ : SdS X 47 [(0, 20), (1, 0), (2, 0), (3, 0)] [0, 20] _)
    refine su_iload_n hC dX10_bars_47 rfl (by decide) (?_ : SdS X 48 [(0, 20), (1, 0), (2, 0), (3, 0)] [0, 0, 20] _)
    refine su_inv0v (τ := []) (τr := [0, 0]) (ci := 10) (q := (RX10, TX10, 45)) hC WG (M_X10_takes _) rfl rfl rfl rfl  rfl rfl wl_7_103 wl_7_105 wp_90 wl_1_10 wl_7_106 hd_X10_takes (by rw [e3]; decide) (by decide) dX10_bars_48 (?_ : SdS X 51 [(0, 20), (1, 0), (2, 0), (3, 0)] [] _)
    refine su_aload_n hC 20 dX10_bars_51 rfl (by decide) (by decide) (?_ : SdS X 52 [(0, 20), (1, 0), (2, 0), (3, 0)] [20] _)
    refine su_aload_n hC 20 dX10_bars_52 rfl (by decide) (by decide) (?_ : SdS X 53 [(0, 20), (1, 0), (2, 0), (3, 0)] [20, 20] _)
    refine su_iload_n hC dX10_bars_53 rfl (by decide) (?_ : SdS X 54 [(0, 20), (1, 0), (2, 0), (3, 0)] [0, 20, 20] _)
    refine su_inv0 (τ := [20]) (τr := [0]) (ci := 10) (q := (RX10, TX10, 45)) hC WG (M_X10_barsNow _) rfl rfl rfl rfl  rfl rfl wl_7_139 wl_7_141 wp_98 wl_1_10 wl_7_142 hd_X10_barsNow (by rw [e3]; decide) (by decide) dX10_bars_54 (?_ : SdS X 57 [(0, 20), (1, 0), (2, 0), (3, 0)] [0, 20] _)
    refine su_inv0 (τ := []) (τr := [0]) (ci := 10) (q := (RX10, TX10, 45)) hC WG (M_X10_good _) rfl rfl rfl rfl  rfl rfl wl_7_171 wl_7_173 wp_105 wl_1_10 wl_7_174 hd_X10_good (by rw [e3]; decide) (by decide) dX10_bars_57 (?_ : SdS X 60 [(0, 20), (1, 0), (2, 0), (3, 0)] [0] _)
    exact su_ireturn hC hT dX10_bars_60
  refine (?_ : SdS X 0 [(0, 20), (1, 0), (2, 0), (3, 0)] [] (E_X10_bars Q))
  unfold E_X10_bars
  refine su_aload_n hC 20 dX10_bars_0 rfl (by decide) (by decide) (?_ : SdS X 1 [(0, 20), (1, 0), (2, 0), (3, 0)] [20] _)
  refine su_iconst hC dX10_bars_1 ⟨by decide, by decide⟩ (?_ : SdS X 2 [(0, 20), (1, 0), (2, 0), (3, 0)] [0, 20] _)
  refine su_putF hC (ci := 10) (j := 0) (C := RX10) (T := TX10) (N := 45) tyX10 tyX10_ok nmX10 rfl rfl (by decide) in_X10 rfl rfl wl_5_164 rfl dX10_bars_2 (?_ : SdS X 5 [(0, 20), (1, 0), (2, 0), (3, 0)] [] _)
  refine su_aload_n hC 20 dX10_bars_5 rfl (by decide) (by decide) (?_ : SdS X 6 [(0, 20), (1, 0), (2, 0), (3, 0)] [20] _)
  refine su_iload_n hC dX10_bars_6 rfl (by decide) (?_ : SdS X 7 [(0, 20), (1, 0), (2, 0), (3, 0)] [0, 20] _)
  refine su_inv0 (τ := []) (τr := [0]) (ci := 10) (q := (RX10, TX10, 45)) hC WG (M_X10_isGood _) rfl rfl rfl rfl  rfl rfl wl_7_195 wl_7_197 wp_107 wl_1_10 wl_7_198 hd_X10_isGood (by rw [e3]; decide) (by decide) dX10_bars_7 (?_ : SdS X 10 [(0, 20), (1, 0), (2, 0), (3, 0)] [0] _)
  refine su_if_eq (tgt := 21) hC dX10_bars_10 rfl (?_ : SdS X 21 [(0, 20), (1, 0), (2, 0), (3, 0)] [] _) (?_ : SdS X 13 [(0, 20), (1, 0), (2, 0), (3, 0)] [] _)
  · exact SdS.weak (by decide) (S_21)
  · refine su_aload_n hC 20 dX10_bars_13 rfl (by decide) (by decide) (?_ : SdS X 14 [(0, 20), (1, 0), (2, 0), (3, 0)] [20] _)
    refine su_iload_n hC dX10_bars_14 rfl (by decide) (?_ : SdS X 15 [(0, 20), (1, 0), (2, 0), (3, 0)] [0, 20] _)
    refine su_inv0 (τ := []) (τr := [0]) (ci := 10) (q := (RX10, TX10, 45)) hC WG (M_X10_isGate _) rfl rfl rfl rfl  rfl rfl wl_7_187 wl_7_189 wp_106 wl_1_10 wl_7_190 hd_X10_isGate (by rw [e3]; decide) (by decide) dX10_bars_15 (?_ : SdS X 18 [(0, 20), (1, 0), (2, 0), (3, 0)] [0] _)
    refine su_if_ne (tgt := 27) hC dX10_bars_18 rfl (?_ : SdS X 27 [(0, 20), (1, 0), (2, 0), (3, 0)] [] _) (?_ : SdS X 21 [(0, 20), (1, 0), (2, 0), (3, 0)] [] _)
    · refine su_iload_n hC dX10_bars_27 rfl (by decide) (?_ : SdS X 28 [(0, 20), (1, 0), (2, 0), (3, 0)] [0] _)
      refine su_if_eq (tgt := 45) hC dX10_bars_28 rfl (?_ : SdS X 45 [(0, 20), (1, 0), (2, 0), (3, 0)] [] _) (?_ : SdS X 31 [(0, 20), (1, 0), (2, 0), (3, 0)] [] _)
      · exact SdS.weak (by decide) (S_45)
      · refine su_aload_n hC 20 dX10_bars_31 rfl (by decide) (by decide) (?_ : SdS X 32 [(0, 20), (1, 0), (2, 0), (3, 0)] [20] _)
        refine su_iload_n hC dX10_bars_32 rfl (by decide) (?_ : SdS X 33 [(0, 20), (1, 0), (2, 0), (3, 0)] [0, 20] _)
        refine su_inv0 (τ := []) (τr := [0]) (ci := 10) (q := (RX10, TX10, 45)) hC WG (M_X10_canCut _) rfl rfl rfl rfl  rfl rfl wl_7_99 wl_7_101 wp_89 wl_1_10 wl_7_102 hd_X10_canCut (by rw [e3]; decide) (by decide) dX10_bars_33 (?_ : SdS X 36 [(0, 20), (1, 0), (2, 0), (3, 0)] [0] _)
        refine su_if_ne (tgt := 45) hC dX10_bars_36 rfl (?_ : SdS X 45 [(0, 20), (1, 0), (2, 0), (3, 0)] [] _) (?_ : SdS X 39 [(0, 20), (1, 0), (2, 0), (3, 0)] [] _)
        · exact SdS.weak (by decide) (S_45)
        · refine su_aload_n hC 20 dX10_bars_39 rfl (by decide) (by decide) (?_ : SdS X 40 [(0, 20), (1, 0), (2, 0), (3, 0)] [20] _)
          refine su_iconst hC dX10_bars_40 ⟨by decide, by decide⟩ (?_ : SdS X 41 [(0, 20), (1, 0), (2, 0), (3, 0)] [0, 20] _)
          refine su_inv0 (τ := []) (τr := [0]) (ci := 10) (q := (RX10, TX10, 45)) hC WG (M_X10_refused _) rfl rfl rfl rfl  rfl rfl wl_6_72 wl_6_74 wp_63 wl_1_10 wl_6_75 hd_X10_refused (by rw [e3]; decide) (by decide) dX10_bars_41 (?_ : SdS X 44 [(0, 20), (1, 0), (2, 0), (3, 0)] [0] _)
          exact su_ireturn hC hT dX10_bars_44
    · exact SdS.weak (by decide) (S_21)
theorem wl_5_173 : Cond.fieldLink RX10 89 "NarrowRingsModel" "sort" "I" ∈ WALL := tb5 (List.mem_of_getElem? (i := 173) rfl) rfl
theorem wl_5_177 : Cond.fieldLink RX10 118 "NarrowRingsModel" "fault" "I" ∈ WALL := tb5 (List.mem_of_getElem? (i := 177) rfl) rfl
theorem wl_5_174 : Cond.fieldLink RX10 98 "NarrowRingsModel" "place" "I" ∈ WALL := tb5 (List.mem_of_getElem? (i := 174) rfl) rfl
theorem wl_5_178 : Cond.fieldLink RX10 121 "NarrowRingsModel" "wrongAt" "I" ∈ WALL := tb5 (List.mem_of_getElem? (i := 178) rfl) rfl
theorem hd_X10_wrong : yX10_wrong.cls ≠ "java/lang/invoke/MethodHandle" ∧ yX10_wrong.cls ≠ "java/lang/invoke/VarHandle" ∧ (parseMethodDescriptor yX10_wrong.desc).map (fun d => d.parameters.length) = some 1 := by decide +kernel
set_option maxRecDepth 100000 in
set_option maxHeartbeats 4000000 in
theorem M_X10_wrong (l : Launch) : MtS l yX10_wrong (Cond.code yX10_wrong cX10_wrong 2 none :: WALL) { frames := 0, cells := 0, slots := 0, locals := 0 } [20, 0] none T_X10_wrong := by
  refine MtS.mk (B := E_X10_wrong) (by decide +kernel) (by decide) (fun _ _ _ hh => hh) ?_
  intro X Q e1 e2 e3 hC hN hT
  subst e1
  have hC : CF X cX10_wrong RX10 WALL := hC
  refine (?_ : SdS X 0 [(0, 20), (1, 0)] [] (E_X10_wrong Q))
  unfold E_X10_wrong
  refine su_aload_n hC 20 dX10_wrong_0 rfl (by decide) (by decide) (?_ : SdS X 1 [(0, 20), (1, 0)] [20] _)
  refine su_getF hC (ci := 10) (j := 9) (C := RX10) (T := TX10) (N := 45) rfl rfl (by decide) in_X10 wl_5_173 rfl dX10_wrong_1 (?_ : SdS X 4 [(0, 20), (1, 0)] [0] _)
  refine su_iconst hC dX10_wrong_4 ⟨by decide, by decide⟩ (?_ : SdS X 5 [(0, 20), (1, 0)] [0, 0] _)
  refine su_icmp_ne (tgt := 9) hC dX10_wrong_5 rfl (?_ : SdS X 9 [(0, 20), (1, 0)] [] _) (?_ : SdS X 8 [(0, 20), (1, 0)] [] _)
  · refine su_aload_n hC 20 dX10_wrong_9 rfl (by decide) (by decide) (?_ : SdS X 10 [(0, 20), (1, 0)] [20] _)
    refine su_iload_n hC dX10_wrong_10 rfl (by decide) (?_ : SdS X 11 [(0, 20), (1, 0)] [0, 20] _)
    refine su_putF hC (ci := 10) (j := 13) (C := RX10) (T := TX10) (N := 45) tyX10 tyX10_ok nmX10 rfl rfl (by decide) in_X10 rfl rfl wl_5_177 rfl dX10_wrong_11 (?_ : SdS X 14 [(0, 20), (1, 0)] [] _)
    refine su_aload_n hC 20 dX10_wrong_14 rfl (by decide) (by decide) (?_ : SdS X 15 [(0, 20), (1, 0)] [20] _)
    refine su_aload_n hC 20 dX10_wrong_15 rfl (by decide) (by decide) (?_ : SdS X 16 [(0, 20), (1, 0)] [20, 20] _)
    refine su_getF hC (ci := 10) (j := 10) (C := RX10) (T := TX10) (N := 45) rfl rfl (by decide) in_X10 wl_5_174 rfl dX10_wrong_16 (?_ : SdS X 19 [(0, 20), (1, 0)] [0, 20] _)
    refine su_putF hC (ci := 10) (j := 14) (C := RX10) (T := TX10) (N := 45) tyX10 tyX10_ok nmX10 rfl rfl (by decide) in_X10 rfl rfl wl_5_178 rfl dX10_wrong_19 (?_ : SdS X 22 [(0, 20), (1, 0)] [] _)
    refine su_aload_n hC 20 dX10_wrong_22 rfl (by decide) (by decide) (?_ : SdS X 23 [(0, 20), (1, 0)] [20] _)
    refine su_iconst hC dX10_wrong_23 ⟨by decide, by decide⟩ (?_ : SdS X 24 [(0, 20), (1, 0)] [0, 20] _)
    refine su_putF hC (ci := 10) (j := 9) (C := RX10) (T := TX10) (N := 45) tyX10 tyX10_ok nmX10 rfl rfl (by decide) in_X10 rfl rfl wl_5_173 rfl dX10_wrong_24 (?_ : SdS X 27 [(0, 20), (1, 0)] [] _)
    exact su_return hC hT dX10_wrong_27
  · exact su_return hC hT dX10_wrong_8

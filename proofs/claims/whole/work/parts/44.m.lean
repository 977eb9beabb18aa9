theorem wl_1_77 : Cond.fieldLink RX1 39 "NarrowRings$City" "rings" "I" ∈ WALL := tb1 (List.mem_of_getElem? (i := 77) rfl) rfl
theorem wl_1_110 : Cond.fieldLink RX1 23 "NarrowRings$City" "store" "[[I" ∈ WALL := tb1 (List.mem_of_getElem? (i := 110) rfl) rfl
theorem hd_X1_daysOf : yX1_daysOf.cls ≠ "java/lang/invoke/MethodHandle" ∧ yX1_daysOf.cls ≠ "java/lang/invoke/VarHandle" ∧ (parseMethodDescriptor yX1_daysOf.desc).map (fun d => d.parameters.length) = some 1 := by decide +kernel
set_option maxRecDepth 100000 in
set_option maxHeartbeats 4000000 in
theorem M_X1_daysOf (l : Launch) : MtS l yX1_daysOf (Cond.code yX1_daysOf cX1_daysOf 5 (some .int) :: WALL) { frames := 0, cells := 0, slots := 0, locals := 0 } [11, 0] (some 0) T_X1_daysOf := by
  refine MtS.mk (B := E_X1_daysOf) (by decide +kernel) (by decide) (fun _ _ _ hh => hh) ?_
  intro X Q e1 e2 e3 hC hN hT
  subst e1
  have hC : CF X cX1_daysOf RX1 WALL := hC
  have S_69 : SdS X 69 [(0, 11), (1, 0), (2, 0), (3, 0), (4, 0)] [0] (B_X1_daysOf_69 Q) := by
    unfold B_X1_daysOf_69
    exact su_ireturn hC hT dX1_daysOf_69
  have S_48 : ∀ (k7 : xK), SdS X 7 [(0, 11), (1, 0), (2, 0), (3, 0), (4, 0)] [] k7 → SdS X 48 [(0, 11), (1, 0), (2, 0), (3, 0), (4, 0)] [0, 0] (B_X1_daysOf_48 Q k7) := by
    intro k7 h7
    unfold B_X1_daysOf_48
    refine su_iadd hC dX1_daysOf_48 (?_ : SdS X 49 [(0, 11), (1, 0), (2, 0), (3, 0), (4, 0)] [0] _)
    refine su_istore_n (Γ' := [(0, 11), (1, 0), (2, 0), (3, 0), (4, 0)]) hC dX1_daysOf_49 rfl (by rw [e2]; decide) (by decide) (?_ : SdS X 50 [(0, 11), (1, 0), (2, 0), (3, 0), (4, 0)] [] _)
    refine su_iinc (Γ' := [(0, 11), (1, 0), (2, 0), (3, 0), (4, 0)]) hC dX1_daysOf_50 (by decide) (by rw [e2]; decide) (by decide) (?_ : SdS X 53 [(0, 11), (1, 0), (2, 0), (3, 0), (4, 0)] [] _)
    refine su_goto (tgt := 7) hC dX1_daysOf_53 rfl (?_ : SdS X 7 [(0, 11), (1, 0), (2, 0), (3, 0), (4, 0)] [] _)
    exact SdS.weak (by decide) h7
  have S_7 : SdS X 7 [(0, 11), (1, 0), (2, 0), (3, 0), (4, 0)] [] (L_X1_daysOf_7 Q) := by
    unfold L_X1_daysOf_7
    refine SdS.loop (fun k7 h7 => ?_)
    refine su_iload hC dX1_daysOf_7 (by decide) (?_ : SdS X 9 [(0, 11), (1, 0), (2, 0), (3, 0), (4, 0)] [0] _)
    refine su_aload_n hC 11 dX1_daysOf_9 rfl (by decide) (by decide) (?_ : SdS X 10 [(0, 11), (1, 0), (2, 0), (3, 0), (4, 0)] [11, 0] _)
    refine su_getF hC (ci := 1) (j := 0) (C := RX1) (T := TX1) (N := 12) rfl rfl (by decide) in_X1 wl_1_77 rfl dX1_daysOf_10 (?_ : SdS X 13 [(0, 11), (1, 0), (2, 0), (3, 0), (4, 0)] [0, 0] _)
    refine su_icmp_ge (tgt := 56) hC dX1_daysOf_13 rfl (?_ : SdS X 56 [(0, 11), (1, 0), (2, 0), (3, 0), (4, 0)] [] _) (?_ : SdS X 16 [(0, 11), (1, 0), (2, 0), (3, 0), (4, 0)] [] _)
    · refine su_iload_n hC dX1_daysOf_56 rfl (by decide) (?_ : SdS X 57 [(0, 11), (1, 0), (2, 0), (3, 0), (4, 0)] [0] _)
      refine su_if_ne (tgt := 66) hC dX1_daysOf_57 rfl (?_ : SdS X 66 [(0, 11), (1, 0), (2, 0), (3, 0), (4, 0)] [] _) (?_ : SdS X 60 [(0, 11), (1, 0), (2, 0), (3, 0), (4, 0)] [] _)
      · refine su_iload_n hC dX1_daysOf_66 rfl (by decide) (?_ : SdS X 67 [(0, 11), (1, 0), (2, 0), (3, 0), (4, 0)] [0] _)
        refine su_iload_n hC dX1_daysOf_67 rfl (by decide) (?_ : SdS X 68 [(0, 11), (1, 0), (2, 0), (3, 0), (4, 0)] [0, 0] _)
        refine su_idiv hC dX1_daysOf_68 (?_ : SdS X 69 [(0, 11), (1, 0), (2, 0), (3, 0), (4, 0)] [0] _)
        exact SdS.weak (by decide) (S_69)
      · refine su_sipush hC dX1_daysOf_60 (by decide) (?_ : SdS X 63 [(0, 11), (1, 0), (2, 0), (3, 0), (4, 0)] [0] _)
        refine su_goto (tgt := 69) hC dX1_daysOf_63 rfl (?_ : SdS X 69 [(0, 11), (1, 0), (2, 0), (3, 0), (4, 0)] [0] _)
        exact SdS.weak (by decide) (S_69)
    · refine su_iload_n hC dX1_daysOf_16 rfl (by decide) (?_ : SdS X 17 [(0, 11), (1, 0), (2, 0), (3, 0), (4, 0)] [0] _)
      refine su_aload_n hC 11 dX1_daysOf_17 rfl (by decide) (by decide) (?_ : SdS X 18 [(0, 11), (1, 0), (2, 0), (3, 0), (4, 0)] [11, 0] _)
      refine su_getR hC (ci := 1) (j := 8) (C := RX1) (T := TX1) (N := 12) rfl rfl (by decide) in_X1 wl_1_110 rfl dX1_daysOf_18 (?_ : SdS X 21 [(0, 11), (1, 0), (2, 0), (3, 0), (4, 0)] [200, 0] _)
      refine su_iload hC dX1_daysOf_21 (by decide) (?_ : SdS X 23 [(0, 11), (1, 0), (2, 0), (3, 0), (4, 0)] [0, 200, 0] _)
      refine su_aaload (e := 100) hC (List.mem_of_getElem? (i := 7) rfl) rfl rfl rfl dX1_daysOf_23 (?_ : SdS X 24 [(0, 11), (1, 0), (2, 0), (3, 0), (4, 0)] [100, 0] _)
      refine su_iconst hC dX1_daysOf_24 ⟨by decide, by decide⟩ (?_ : SdS X 25 [(0, 11), (1, 0), (2, 0), (3, 0), (4, 0)] [0, 100, 0] _)
      refine su_iaload hC dX1_daysOf_25 (?_ : SdS X 26 [(0, 11), (1, 0), (2, 0), (3, 0), (4, 0)] [0, 0] _)
      refine su_iadd hC dX1_daysOf_26 (?_ : SdS X 27 [(0, 11), (1, 0), (2, 0), (3, 0), (4, 0)] [0] _)
      refine su_istore_n (Γ' := [(0, 11), (1, 0), (2, 0), (3, 0), (4, 0)]) hC dX1_daysOf_27 rfl (by rw [e2]; decide) (by decide) (?_ : SdS X 28 [(0, 11), (1, 0), (2, 0), (3, 0), (4, 0)] [] _)
      refine su_iload_n hC dX1_daysOf_28 rfl (by decide) (?_ : SdS X 29 [(0, 11), (1, 0), (2, 0), (3, 0), (4, 0)] [0] _)
      refine su_iload hC dX1_daysOf_29 (by decide) (?_ : SdS X 31 [(0, 11), (1, 0), (2, 0), (3, 0), (4, 0)] [0, 0] _)
      refine su_iload_n hC dX1_daysOf_31 rfl (by decide) (?_ : SdS X 32 [(0, 11), (1, 0), (2, 0), (3, 0), (4, 0)] [0, 0, 0] _)
      refine su_icmp_lt (tgt := 47) hC dX1_daysOf_32 rfl (?_ : SdS X 47 [(0, 11), (1, 0), (2, 0), (3, 0), (4, 0)] [0] _) (?_ : SdS X 35 [(0, 11), (1, 0), (2, 0), (3, 0), (4, 0)] [0] _)
      · refine su_iconst hC dX1_daysOf_47 ⟨by decide, by decide⟩ (?_ : SdS X 48 [(0, 11), (1, 0), (2, 0), (3, 0), (4, 0)] [0, 0] _)
        exact SdS.weak (by decide) (S_48 k7 h7)
      · refine su_aload_n hC 11 dX1_daysOf_35 rfl (by decide) (by decide) (?_ : SdS X 36 [(0, 11), (1, 0), (2, 0), (3, 0), (4, 0)] [11, 0] _)
        refine su_getR hC (ci := 1) (j := 8) (C := RX1) (T := TX1) (N := 12) rfl rfl (by decide) in_X1 wl_1_110 rfl dX1_daysOf_36 (?_ : SdS X 39 [(0, 11), (1, 0), (2, 0), (3, 0), (4, 0)] [200, 0] _)
        refine su_iload hC dX1_daysOf_39 (by decide) (?_ : SdS X 41 [(0, 11), (1, 0), (2, 0), (3, 0), (4, 0)] [0, 200, 0] _)
        refine su_aaload (e := 100) hC (List.mem_of_getElem? (i := 7) rfl) rfl rfl rfl dX1_daysOf_41 (?_ : SdS X 42 [(0, 11), (1, 0), (2, 0), (3, 0), (4, 0)] [100, 0] _)
        refine su_iconst hC dX1_daysOf_42 ⟨by decide, by decide⟩ (?_ : SdS X 43 [(0, 11), (1, 0), (2, 0), (3, 0), (4, 0)] [0, 100, 0] _)
        refine su_iaload hC dX1_daysOf_43 (?_ : SdS X 44 [(0, 11), (1, 0), (2, 0), (3, 0), (4, 0)] [0, 0] _)
        refine su_goto (tgt := 48) hC dX1_daysOf_44 rfl (?_ : SdS X 48 [(0, 11), (1, 0), (2, 0), (3, 0), (4, 0)] [0, 0] _)
        exact SdS.weak (by decide) (S_48 k7 h7)
  refine (?_ : SdS X 0 [(0, 11), (1, 0)] [] (E_X1_daysOf Q))
  unfold E_X1_daysOf
  refine su_iconst hC dX1_daysOf_0 ⟨by decide, by decide⟩ (?_ : SdS X 1 [(0, 11), (1, 0)] [0] _)
  refine su_istore_n (Γ' := [(0, 11), (1, 0), (2, 0)]) hC dX1_daysOf_1 rfl (by rw [e2]; decide) (by decide) (?_ : SdS X 2 [(0, 11), (1, 0), (2, 0)] [] _)
  refine su_iconst hC dX1_daysOf_2 ⟨by decide, by decide⟩ (?_ : SdS X 3 [(0, 11), (1, 0), (2, 0)] [0] _)
  refine su_istore_n (Γ' := [(0, 11), (1, 0), (2, 0), (3, 0)]) hC dX1_daysOf_3 rfl (by rw [e2]; decide) (by decide) (?_ : SdS X 4 [(0, 11), (1, 0), (2, 0), (3, 0)] [] _)
  refine su_iconst hC dX1_daysOf_4 ⟨by decide, by decide⟩ (?_ : SdS X 5 [(0, 11), (1, 0), (2, 0), (3, 0)] [0] _)
  refine su_istore (Γ' := [(0, 11), (1, 0), (2, 0), (3, 0), (4, 0)]) hC dX1_daysOf_5 (by rw [e2]; decide) (by decide) (?_ : SdS X 7 [(0, 11), (1, 0), (2, 0), (3, 0), (4, 0)] [] _)
  exact SdS.weak (by decide) (S_7)
theorem wl_1_48 : Cond.fieldLink RX6 13 "NarrowRings$Thing" "wide" "[I" ∈ WALL := tb1 (List.mem_of_getElem? (i := 48) rfl) rfl
theorem hd_X6_narrowest : yX6_narrowest.cls ≠ "java/lang/invoke/MethodHandle" ∧ yX6_narrowest.cls ≠ "java/lang/invoke/VarHandle" ∧ (parseMethodDescriptor yX6_narrowest.desc).map (fun d => d.parameters.length) = some 0 := by decide +kernel
set_option maxRecDepth 100000 in
set_option maxHeartbeats 4000000 in
theorem M_X6_narrowest (l : Launch) : MtS l yX6_narrowest (Cond.code yX6_narrowest cX6_narrowest 1 (some .int) :: WALL) { frames := 0, cells := 0, slots := 0, locals := 0 } [16] (some 0) T_X6_narrowest := by
  refine MtS.mk (B := E_X6_narrowest) (by decide +kernel) (by decide) (fun _ _ _ hh => hh) ?_
  intro X Q e1 e2 e3 hC hN hT
  subst e1
  have hC : CF X cX6_narrowest RX6 WALL := hC
  have S_37 : SdS X 37 [(0, 16)] [0] (B_X6_narrowest_37 Q) := by
    unfold B_X6_narrowest_37
    exact su_ireturn hC hT dX6_narrowest_37
  have S_31 : SdS X 31 [(0, 16)] [] (B_X6_narrowest_31 Q) := by
    unfold B_X6_narrowest_31
    refine su_aload_n hC 16 dX6_narrowest_31 rfl (by decide) (by decide) (?_ : SdS X 32 [(0, 16)] [16] _)
    refine su_getR hC (ci := 6) (j := 1) (C := RX6) (T := TX6) (N := 7) rfl rfl (by decide) in_X6 wl_1_48 rfl dX6_narrowest_32 (?_ : SdS X 35 [(0, 16)] [100] _)
    refine su_iconst hC dX6_narrowest_35 ⟨by decide, by decide⟩ (?_ : SdS X 36 [(0, 16)] [0, 100] _)
    refine su_iaload hC dX6_narrowest_36 (?_ : SdS X 37 [(0, 16)] [0] _)
    exact SdS.weak (by decide) (S_37)
  refine (?_ : SdS X 0 [(0, 16)] [] (E_X6_narrowest Q))
  unfold E_X6_narrowest
  refine su_aload_n hC 16 dX6_narrowest_0 rfl (by decide) (by decide) (?_ : SdS X 1 [(0, 16)] [16] _)
  refine su_getF hC (ci := 6) (j := 5) (C := RX6) (T := TX6) (N := 7) rfl rfl (by decide) in_X6 wl_1_57 rfl dX6_narrowest_1 (?_ : SdS X 4 [(0, 16)] [0] _)
  refine su_if_eq (tgt := 31) hC dX6_narrowest_4 rfl (?_ : SdS X 31 [(0, 16)] [] _) (?_ : SdS X 7 [(0, 16)] [] _)
  · exact SdS.weak (by decide) (S_31)
  · refine su_aload_n hC 16 dX6_narrowest_7 rfl (by decide) (by decide) (?_ : SdS X 8 [(0, 16)] [16] _)
    refine su_getR hC (ci := 6) (j := 1) (C := RX6) (T := TX6) (N := 7) rfl rfl (by decide) in_X6 wl_1_48 rfl dX6_narrowest_8 (?_ : SdS X 11 [(0, 16)] [100] _)
    refine su_iconst hC dX6_narrowest_11 ⟨by decide, by decide⟩ (?_ : SdS X 12 [(0, 16)] [0, 100] _)
    refine su_iaload hC dX6_narrowest_12 (?_ : SdS X 13 [(0, 16)] [0] _)
    refine su_aload_n hC 16 dX6_narrowest_13 rfl (by decide) (by decide) (?_ : SdS X 14 [(0, 16)] [16, 0] _)
    refine su_getR hC (ci := 6) (j := 1) (C := RX6) (T := TX6) (N := 7) rfl rfl (by decide) in_X6 wl_1_48 rfl dX6_narrowest_14 (?_ : SdS X 17 [(0, 16)] [100, 0] _)
    refine su_iconst hC dX6_narrowest_17 ⟨by decide, by decide⟩ (?_ : SdS X 18 [(0, 16)] [0, 100, 0] _)
    refine su_iaload hC dX6_narrowest_18 (?_ : SdS X 19 [(0, 16)] [0, 0] _)
    refine su_icmp_ge (tgt := 31) hC dX6_narrowest_19 rfl (?_ : SdS X 31 [(0, 16)] [] _) (?_ : SdS X 22 [(0, 16)] [] _)
    · exact SdS.weak (by decide) (S_31)
    · refine su_aload_n hC 16 dX6_narrowest_22 rfl (by decide) (by decide) (?_ : SdS X 23 [(0, 16)] [16] _)
      refine su_getR hC (ci := 6) (j := 1) (C := RX6) (T := TX6) (N := 7) rfl rfl (by decide) in_X6 wl_1_48 rfl dX6_narrowest_23 (?_ : SdS X 26 [(0, 16)] [100] _)
      refine su_iconst hC dX6_narrowest_26 ⟨by decide, by decide⟩ (?_ : SdS X 27 [(0, 16)] [0, 100] _)
      refine su_iaload hC dX6_narrowest_27 (?_ : SdS X 28 [(0, 16)] [0] _)
      refine su_goto (tgt := 37) hC dX6_narrowest_28 rfl (?_ : SdS X 37 [(0, 16)] [0] _)
      exact SdS.weak (by decide) (S_37)
theorem wl_3_149 : Cond.methodLink RX1 67 yX6_narrowest ∈ WALL := tb3 (List.mem_of_getElem? (i := 149) rfl) rfl
theorem wl_3_150 : Cond.instanceMethod yX6_narrowest ∈ WALL := tb3 (List.mem_of_getElem? (i := 150) rfl) rfl
theorem wl_3_151 : Cond.selects RX6 yX6_narrowest yX6_narrowest ∈ WALL := tb3 (List.mem_of_getElem? (i := 151) rfl) rfl
theorem wl_3_152 : Cond.code yX6_narrowest cX6_narrowest 1 (some .int) ∈ WALL := tb3 (List.mem_of_getElem? (i := 152) rfl) rfl
theorem wl_1_88 : Cond.fieldLink RX1 46 "NarrowRings$City" "carts" "I" ∈ WALL := tb1 (List.mem_of_getElem? (i := 88) rfl) rfl
theorem wl_3_153 : Cond.methodLink RX1 71 yX1_cartBears ∈ WALL := tb3 (List.mem_of_getElem? (i := 153) rfl) rfl
theorem wl_3_154 : Cond.instanceMethod yX1_cartBears ∈ WALL := tb3 (List.mem_of_getElem? (i := 154) rfl) rfl
theorem wl_3_155 : Cond.selects RX1 yX1_cartBears yX1_cartBears ∈ WALL := tb3 (List.mem_of_getElem? (i := 155) rfl) rfl
theorem wl_3_156 : Cond.code yX1_cartBears cX1_cartBears 4 (some .boolean) ∈ WALL := tb3 (List.mem_of_getElem? (i := 156) rfl) rfl
theorem hd_X1_ringBears : yX1_ringBears.cls ≠ "java/lang/invoke/MethodHandle" ∧ yX1_ringBears.cls ≠ "java/lang/invoke/VarHandle" ∧ (parseMethodDescriptor yX1_ringBears.desc).map (fun d => d.parameters.length) = some 2 := by decide +kernel
set_option maxRecDepth 100000 in
set_option maxHeartbeats 4000000 in
theorem M_X1_ringBears (l : Launch) : MtS l yX1_ringBears (Cond.code yX1_ringBears cX1_ringBears 4 (some .boolean) :: WALL) { frames := 1, cells := 0, slots := 0, locals := 23 } [11, 16, 0] (some 0) T_X1_ringBears := by
  refine MtS.mk (B := E_X1_ringBears) (by decide +kernel) (by decide) (fun _ _ _ hh => hh) ?_
  intro X Q e1 e2 e3 hC hN hT
  subst e1
  have hC : CF X cX1_ringBears RX1 WALL := hC
  have S_17 : SdS X 17 [(0, 11), (1, 16), (2, 0), (3, 0)] [] (L_X1_ringBears_17 Q) := by
    unfold L_X1_ringBears_17
    refine SdS.loop (fun k17 h17 => ?_)
    refine su_iload_n hC dX1_ringBears_17 rfl (by decide) (?_ : SdS X 18 [(0, 11), (1, 16), (2, 0), (3, 0)] [0] _)
    refine su_aload_n hC 11 dX1_ringBears_18 rfl (by decide) (by decide) (?_ : SdS X 19 [(0, 11), (1, 16), (2, 0), (3, 0)] [11, 0] _)
    refine su_getF hC (ci := 1) (j := 2) (C := RX1) (T := TX1) (N := 12) rfl rfl (by decide) in_X1 wl_1_88 rfl dX1_ringBears_19 (?_ : SdS X 22 [(0, 11), (1, 16), (2, 0), (3, 0)] [0, 0] _)
    refine su_icmp_ge (tgt := 43) hC dX1_ringBears_22 rfl (?_ : SdS X 43 [(0, 11), (1, 16), (2, 0), (3, 0)] [] _) (?_ : SdS X 25 [(0, 11), (1, 16), (2, 0), (3, 0)] [] _)
    · refine su_iconst hC dX1_ringBears_43 ⟨by decide, by decide⟩ (?_ : SdS X 44 [(0, 11), (1, 16), (2, 0), (3, 0)] [0] _)
      exact su_zreturn hC hT dX1_ringBears_44
    · refine su_aload_n hC 11 dX1_ringBears_25 rfl (by decide) (by decide) (?_ : SdS X 26 [(0, 11), (1, 16), (2, 0), (3, 0)] [11] _)
      refine su_aload_n hC 16 dX1_ringBears_26 rfl (by decide) (by decide) (?_ : SdS X 27 [(0, 11), (1, 16), (2, 0), (3, 0)] [16, 11] _)
      refine su_iload_n hC dX1_ringBears_27 rfl (by decide) (?_ : SdS X 28 [(0, 11), (1, 16), (2, 0), (3, 0)] [0, 16, 11] _)
      refine su_iload_n hC dX1_ringBears_28 rfl (by decide) (?_ : SdS X 29 [(0, 11), (1, 16), (2, 0), (3, 0)] [0, 0, 16, 11] _)
      refine su_inv0 (τ := []) (τr := [16, 0, 0]) (ci := 1) (q := (RX1, TX1, 12)) hC WG (M_X1_cartBears _) rfl rfl rfl rfl  rfl rfl wl_3_153 wl_3_154 wl_3_155 wl_1_2 wl_3_156 hd_X1_cartBears (by rw [e3]; decide) (by decide) dX1_ringBears_29 (?_ : SdS X 32 [(0, 11), (1, 16), (2, 0), (3, 0)] [0] _)
      refine su_if_eq (tgt := 37) hC dX1_ringBears_32 rfl (?_ : SdS X 37 [(0, 11), (1, 16), (2, 0), (3, 0)] [] _) (?_ : SdS X 35 [(0, 11), (1, 16), (2, 0), (3, 0)] [] _)
      · refine su_iinc (Γ' := [(0, 11), (1, 16), (2, 0), (3, 0)]) hC dX1_ringBears_37 (by decide) (by rw [e2]; decide) (by decide) (?_ : SdS X 40 [(0, 11), (1, 16), (2, 0), (3, 0)] [] _)
        refine su_goto (tgt := 17) hC dX1_ringBears_40 rfl (?_ : SdS X 17 [(0, 11), (1, 16), (2, 0), (3, 0)] [] _)
        exact SdS.weak (by decide) h17
      · refine su_iconst hC dX1_ringBears_35 ⟨by decide, by decide⟩ (?_ : SdS X 36 [(0, 11), (1, 16), (2, 0), (3, 0)] [0] _)
        exact su_zreturn hC hT dX1_ringBears_36
  refine (?_ : SdS X 0 [(0, 11), (1, 16), (2, 0)] [] (E_X1_ringBears Q))
  unfold E_X1_ringBears
  refine su_aload_n hC 16 dX1_ringBears_0 rfl (by decide) (by decide) (?_ : SdS X 1 [(0, 11), (1, 16), (2, 0)] [16] _)
  refine su_inv0 (τ := []) (τr := []) (ci := 6) (q := (RX6, TX6, 7)) hC WG (M_X6_narrowest _) rfl rfl rfl rfl  rfl rfl wl_3_149 wl_3_150 wl_3_151 wl_1_3 wl_3_152 hd_X6_narrowest (by rw [e3]; decide) (by decide) dX1_ringBears_1 (?_ : SdS X 4 [(0, 11), (1, 16), (2, 0)] [0] _)
  refine su_aload_n hC 11 dX1_ringBears_4 rfl (by decide) (by decide) (?_ : SdS X 5 [(0, 11), (1, 16), (2, 0)] [11, 0] _)
  refine su_getR hC (ci := 1) (j := 5) (C := RX1) (T := TX1) (N := 12) rfl rfl (by decide) in_X1 wl_1_99 rfl dX1_ringBears_5 (?_ : SdS X 8 [(0, 11), (1, 16), (2, 0)] [100, 0] _)
  refine su_iload_n hC dX1_ringBears_8 rfl (by decide) (?_ : SdS X 9 [(0, 11), (1, 16), (2, 0)] [0, 100, 0] _)
  refine su_iaload hC dX1_ringBears_9 (?_ : SdS X 10 [(0, 11), (1, 16), (2, 0)] [0, 0] _)
  refine su_icmp_le (tgt := 15) hC dX1_ringBears_10 rfl (?_ : SdS X 15 [(0, 11), (1, 16), (2, 0)] [] _) (?_ : SdS X 13 [(0, 11), (1, 16), (2, 0)] [] _)
  · refine su_iconst hC dX1_ringBears_15 ⟨by decide, by decide⟩ (?_ : SdS X 16 [(0, 11), (1, 16), (2, 0)] [0] _)
    refine su_istore_n (Γ' := [(0, 11), (1, 16), (2, 0), (3, 0)]) hC dX1_ringBears_16 rfl (by rw [e2]; decide) (by decide) (?_ : SdS X 17 [(0, 11), (1, 16), (2, 0), (3, 0)] [] _)
    exact SdS.weak (by decide) (S_17)
  · refine su_iconst hC dX1_ringBears_13 ⟨by decide, by decide⟩ (?_ : SdS X 14 [(0, 11), (1, 16), (2, 0)] [0] _)
    exact su_zreturn hC hT dX1_ringBears_14
theorem wl_4_49 : Cond.methodLink RX1 116 yX1_ringBears ∈ WALL := tb4 (List.mem_of_getElem? (i := 49) rfl) rfl
theorem wl_3_146 : Cond.instanceMethod yX1_ringBears ∈ WALL := tb3 (List.mem_of_getElem? (i := 146) rfl) rfl
theorem wl_3_147 : Cond.selects RX1 yX1_ringBears yX1_ringBears ∈ WALL := tb3 (List.mem_of_getElem? (i := 147) rfl) rfl
theorem wl_3_148 : Cond.code yX1_ringBears cX1_ringBears 4 (some .boolean) ∈ WALL := tb3 (List.mem_of_getElem? (i := 148) rfl) rfl
theorem hd_X1_ringSuits : yX1_ringSuits.cls ≠ "java/lang/invoke/MethodHandle" ∧ yX1_ringSuits.cls ≠ "java/lang/invoke/VarHandle" ∧ (parseMethodDescriptor yX1_ringSuits.desc).map (fun d => d.parameters.length) = some 3 := by decide +kernel
set_option maxRecDepth 100000 in
set_option maxHeartbeats 4000000 in
theorem M_X1_ringSuits (l : Launch) : MtS l yX1_ringSuits (Cond.code yX1_ringSuits cX1_ringSuits 4 (some .boolean) :: WALL) { frames := 2, cells := 0, slots := 0, locals := 46 } [11, 16, 0, 0] (some 0) T_X1_ringSuits := by
  refine MtS.mk (B := E_X1_ringSuits) (by decide +kernel) (by decide) (fun _ _ _ hh => hh) ?_
  intro X Q e1 e2 e3 hC hN hT
  subst e1
  have hC : CF X cX1_ringSuits RX1 WALL := hC
  have S_31 : SdS X 31 [(0, 11), (1, 16), (2, 0), (3, 0)] [0] (B_X1_ringSuits_31 Q) := by
    unfold B_X1_ringSuits_31
    exact su_zreturn hC hT dX1_ringSuits_31
  refine (?_ : SdS X 0 [(0, 11), (1, 16), (2, 0), (3, 0)] [] (E_X1_ringSuits Q))
  unfold E_X1_ringSuits
  refine su_iload_n hC dX1_ringSuits_0 rfl (by decide) (?_ : SdS X 1 [(0, 11), (1, 16), (2, 0), (3, 0)] [0] _)
  refine su_if_eq (tgt := 13) hC dX1_ringSuits_1 rfl (?_ : SdS X 13 [(0, 11), (1, 16), (2, 0), (3, 0)] [] _) (?_ : SdS X 4 [(0, 11), (1, 16), (2, 0), (3, 0)] [] _)
  · refine su_aload_n hC 16 dX1_ringSuits_13 rfl (by decide) (by decide) (?_ : SdS X 14 [(0, 11), (1, 16), (2, 0), (3, 0)] [16] _)
    refine su_inv0 (τ := []) (τr := []) (ci := 6) (q := (RX6, TX6, 7)) hC WG (M_X6_narrowest _) rfl rfl rfl rfl  rfl rfl wl_3_149 wl_3_150 wl_3_151 wl_1_3 wl_3_152 hd_X6_narrowest (by rw [e3]; decide) (by decide) dX1_ringSuits_14 (?_ : SdS X 17 [(0, 11), (1, 16), (2, 0), (3, 0)] [0] _)
    refine su_aload_n hC 11 dX1_ringSuits_17 rfl (by decide) (by decide) (?_ : SdS X 18 [(0, 11), (1, 16), (2, 0), (3, 0)] [11, 0] _)
    refine su_getR hC (ci := 1) (j := 5) (C := RX1) (T := TX1) (N := 12) rfl rfl (by decide) in_X1 wl_1_99 rfl dX1_ringSuits_18 (?_ : SdS X 21 [(0, 11), (1, 16), (2, 0), (3, 0)] [100, 0] _)
    refine su_iload_n hC dX1_ringSuits_21 rfl (by decide) (?_ : SdS X 22 [(0, 11), (1, 16), (2, 0), (3, 0)] [0, 100, 0] _)
    refine su_iaload hC dX1_ringSuits_22 (?_ : SdS X 23 [(0, 11), (1, 16), (2, 0), (3, 0)] [0, 0] _)
    refine su_icmp_gt (tgt := 30) hC dX1_ringSuits_23 rfl (?_ : SdS X 30 [(0, 11), (1, 16), (2, 0), (3, 0)] [] _) (?_ : SdS X 26 [(0, 11), (1, 16), (2, 0), (3, 0)] [] _)
    · refine su_iconst hC dX1_ringSuits_30 ⟨by decide, by decide⟩ (?_ : SdS X 31 [(0, 11), (1, 16), (2, 0), (3, 0)] [0] _)
      exact SdS.weak (by decide) (S_31)
    · refine su_iconst hC dX1_ringSuits_26 ⟨by decide, by decide⟩ (?_ : SdS X 27 [(0, 11), (1, 16), (2, 0), (3, 0)] [0] _)
      refine su_goto (tgt := 31) hC dX1_ringSuits_27 rfl (?_ : SdS X 31 [(0, 11), (1, 16), (2, 0), (3, 0)] [0] _)
      exact SdS.weak (by decide) (S_31)
  · refine su_aload_n hC 11 dX1_ringSuits_4 rfl (by decide) (by decide) (?_ : SdS X 5 [(0, 11), (1, 16), (2, 0), (3, 0)] [11] _)
    refine su_aload_n hC 16 dX1_ringSuits_5 rfl (by decide) (by decide) (?_ : SdS X 6 [(0, 11), (1, 16), (2, 0), (3, 0)] [16, 11] _)
    refine su_iload_n hC dX1_ringSuits_6 rfl (by decide) (?_ : SdS X 7 [(0, 11), (1, 16), (2, 0), (3, 0)] [0, 16, 11] _)
    refine su_inv0 (τ := []) (τr := [16, 0]) (ci := 1) (q := (RX1, TX1, 12)) hC WG (M_X1_ringBears _) rfl rfl rfl rfl  rfl rfl wl_4_49 wl_3_146 wl_3_147 wl_1_2 wl_3_148 hd_X1_ringBears (by rw [e3]; decide) (by decide) dX1_ringSuits_7 (?_ : SdS X 10 [(0, 11), (1, 16), (2, 0), (3, 0)] [0] _)
    refine su_goto (tgt := 31) hC dX1_ringSuits_10 rfl (?_ : SdS X 31 [(0, 11), (1, 16), (2, 0), (3, 0)] [0] _)
    exact SdS.weak (by decide) (S_31)
theorem wl_3_165 : Cond.methodLink RX1 98 yX1_barOf ∈ WALL := tb3 (List.mem_of_getElem? (i := 165) rfl) rfl
theorem wl_3_166 : Cond.instanceMethod yX1_barOf ∈ WALL := tb3 (List.mem_of_getElem? (i := 166) rfl) rfl
theorem wl_3_167 : Cond.selects RX1 yX1_barOf yX1_barOf ∈ WALL := tb3 (List.mem_of_getElem? (i := 167) rfl) rfl
theorem wl_3_168 : Cond.code yX1_barOf cX1_barOf 5 (some .int) ∈ WALL := tb3 (List.mem_of_getElem? (i := 168) rfl) rfl
theorem hd_X1_letsThrough : yX1_letsThrough.cls ≠ "java/lang/invoke/MethodHandle" ∧ yX1_letsThrough.cls ≠ "java/lang/invoke/VarHandle" ∧ (parseMethodDescriptor yX1_letsThrough.desc).map (fun d => d.parameters.length) = some 2 := by decide +kernel
set_option maxRecDepth 100000 in
set_option maxHeartbeats 4000000 in
theorem M_X1_letsThrough (l : Launch) : MtS l yX1_letsThrough (Cond.code yX1_letsThrough cX1_letsThrough 3 (some .boolean) :: WALL) { frames := 2, cells := 0, slots := 0, locals := 52 } [11, 16, 0] (some 0) T_X1_letsThrough := by
  refine MtS.mk (B := E_X1_letsThrough) (by decide +kernel) (by decide) (fun _ _ _ hh => hh) ?_
  intro X Q e1 e2 e3 hC hN hT
  subst e1
  have hC : CF X cX1_letsThrough RX1 WALL := hC
  have S_26 : SdS X 26 [(0, 11), (1, 16), (2, 0)] [0] (B_X1_letsThrough_26 Q) := by
    unfold B_X1_letsThrough_26
    exact su_zreturn hC hT dX1_letsThrough_26
  have S_25 : SdS X 25 [(0, 11), (1, 16), (2, 0)] [] (B_X1_letsThrough_25 Q) := by
    unfold B_X1_letsThrough_25
    refine su_iconst hC dX1_letsThrough_25 ⟨by decide, by decide⟩ (?_ : SdS X 26 [(0, 11), (1, 16), (2, 0)] [0] _)
    exact SdS.weak (by decide) (S_26)
  refine (?_ : SdS X 0 [(0, 11), (1, 16), (2, 0)] [] (E_X1_letsThrough Q))
  unfold E_X1_letsThrough
  refine su_aload_n hC 11 dX1_letsThrough_0 rfl (by decide) (by decide) (?_ : SdS X 1 [(0, 11), (1, 16), (2, 0)] [11] _)
  refine su_getR hC (ci := 1) (j := 6) (C := RX1) (T := TX1) (N := 12) rfl rfl (by decide) in_X1 wl_1_101 rfl dX1_letsThrough_1 (?_ : SdS X 4 [(0, 11), (1, 16), (2, 0)] [200] _)
  refine su_iload_n hC dX1_letsThrough_4 rfl (by decide) (?_ : SdS X 5 [(0, 11), (1, 16), (2, 0)] [0, 200] _)
  refine su_aaload (e := 100) hC (List.mem_of_getElem? (i := 7) rfl) rfl rfl rfl dX1_letsThrough_5 (?_ : SdS X 6 [(0, 11), (1, 16), (2, 0)] [100] _)
  refine su_bipush hC dX1_letsThrough_6 (by decide) (?_ : SdS X 8 [(0, 11), (1, 16), (2, 0)] [0, 100] _)
  refine su_iaload hC dX1_letsThrough_8 (?_ : SdS X 9 [(0, 11), (1, 16), (2, 0)] [0] _)
  refine su_if_ne (tgt := 25) hC dX1_letsThrough_9 rfl (?_ : SdS X 25 [(0, 11), (1, 16), (2, 0)] [] _) (?_ : SdS X 12 [(0, 11), (1, 16), (2, 0)] [] _)
  · exact SdS.weak (by decide) (S_25)
  · refine su_aload_n hC 11 dX1_letsThrough_12 rfl (by decide) (by decide) (?_ : SdS X 13 [(0, 11), (1, 16), (2, 0)] [11] _)
    refine su_aload_n hC 16 dX1_letsThrough_13 rfl (by decide) (by decide) (?_ : SdS X 14 [(0, 11), (1, 16), (2, 0)] [16, 11] _)
    refine su_iload_n hC dX1_letsThrough_14 rfl (by decide) (?_ : SdS X 15 [(0, 11), (1, 16), (2, 0)] [0, 16, 11] _)
    refine su_inv0 (τ := []) (τr := [16, 0]) (ci := 1) (q := (RX1, TX1, 12)) hC WG (M_X1_barOf _) rfl rfl rfl rfl  rfl rfl wl_3_165 wl_3_166 wl_3_167 wl_1_2 wl_3_168 hd_X1_barOf (by rw [e3]; decide) (by decide) dX1_letsThrough_15 (?_ : SdS X 18 [(0, 11), (1, 16), (2, 0)] [0] _)
    refine su_if_ne (tgt := 25) hC dX1_letsThrough_18 rfl (?_ : SdS X 25 [(0, 11), (1, 16), (2, 0)] [] _) (?_ : SdS X 21 [(0, 11), (1, 16), (2, 0)] [] _)
    · exact SdS.weak (by decide) (S_25)
    · refine su_iconst hC dX1_letsThrough_21 ⟨by decide, by decide⟩ (?_ : SdS X 22 [(0, 11), (1, 16), (2, 0)] [0] _)
      refine su_goto (tgt := 26) hC dX1_letsThrough_22 rfl (?_ : SdS X 26 [(0, 11), (1, 16), (2, 0)] [0] _)
      exact SdS.weak (by decide) (S_26)
theorem wl_1_82 : Cond.fieldLink RX1 43 "NarrowRings$City" "gates" "I" ∈ WALL := tb1 (List.mem_of_getElem? (i := 82) rfl) rfl
theorem wl_4_54 : Cond.methodLink RX1 119 yX1_letsThrough ∈ WALL := tb4 (List.mem_of_getElem? (i := 54) rfl) rfl
theorem wl_3_162 : Cond.instanceMethod yX1_letsThrough ∈ WALL := tb3 (List.mem_of_getElem? (i := 162) rfl) rfl
theorem wl_3_163 : Cond.selects RX1 yX1_letsThrough yX1_letsThrough ∈ WALL := tb3 (List.mem_of_getElem? (i := 163) rfl) rfl
theorem wl_3_164 : Cond.code yX1_letsThrough cX1_letsThrough 3 (some .boolean) ∈ WALL := tb3 (List.mem_of_getElem? (i := 164) rfl) rfl
theorem hd_X1_someGateLets : yX1_someGateLets.cls ≠ "java/lang/invoke/MethodHandle" ∧ yX1_someGateLets.cls ≠ "java/lang/invoke/VarHandle" ∧ (parseMethodDescriptor yX1_someGateLets.desc).map (fun d => d.parameters.length) = some 2 := by decide +kernel
set_option maxRecDepth 100000 in
set_option maxHeartbeats 4000000 in
theorem M_X1_someGateLets (l : Launch) : MtS l yX1_someGateLets (Cond.code yX1_someGateLets cX1_someGateLets 4 (some .boolean) :: WALL) { frames := 3, cells := 0, slots := 0, locals := 74 } [11, 16, 0] (some 0) T_X1_someGateLets := by
  refine MtS.mk (B := E_X1_someGateLets) (by decide +kernel) (by decide) (fun _ _ _ hh => hh) ?_
  intro X Q e1 e2 e3 hC hN hT
  subst e1
  have hC : CF X cX1_someGateLets RX1 WALL := hC
  have S_33 : ∀ (k2 : xK), SdS X 2 [(0, 11), (1, 16), (2, 0), (3, 0)] [] k2 → SdS X 33 [(0, 11), (1, 16), (2, 0), (3, 0)] [] (B_X1_someGateLets_33 Q k2) := by
    intro k2 h2
    unfold B_X1_someGateLets_33
    refine su_iinc (Γ' := [(0, 11), (1, 16), (2, 0), (3, 0)]) hC dX1_someGateLets_33 (by decide) (by rw [e2]; decide) (by decide) (?_ : SdS X 36 [(0, 11), (1, 16), (2, 0), (3, 0)] [] _)
    refine su_goto (tgt := 2) hC dX1_someGateLets_36 rfl (?_ : SdS X 2 [(0, 11), (1, 16), (2, 0), (3, 0)] [] _)
    exact SdS.weak (by decide) h2
  have S_2 : SdS X 2 [(0, 11), (1, 16), (2, 0), (3, 0)] [] (L_X1_someGateLets_2 Q) := by
    unfold L_X1_someGateLets_2
    refine SdS.loop (fun k2 h2 => ?_)
    refine su_iload_n hC dX1_someGateLets_2 rfl (by decide) (?_ : SdS X 3 [(0, 11), (1, 16), (2, 0), (3, 0)] [0] _)
    refine su_aload_n hC 11 dX1_someGateLets_3 rfl (by decide) (by decide) (?_ : SdS X 4 [(0, 11), (1, 16), (2, 0), (3, 0)] [11, 0] _)
    refine su_getF hC (ci := 1) (j := 1) (C := RX1) (T := TX1) (N := 12) rfl rfl (by decide) in_X1 wl_1_82 rfl dX1_someGateLets_4 (?_ : SdS X 7 [(0, 11), (1, 16), (2, 0), (3, 0)] [0, 0] _)
    refine su_icmp_ge (tgt := 39) hC dX1_someGateLets_7 rfl (?_ : SdS X 39 [(0, 11), (1, 16), (2, 0), (3, 0)] [] _) (?_ : SdS X 10 [(0, 11), (1, 16), (2, 0), (3, 0)] [] _)
    · refine su_iconst hC dX1_someGateLets_39 ⟨by decide, by decide⟩ (?_ : SdS X 40 [(0, 11), (1, 16), (2, 0), (3, 0)] [0] _)
      exact su_zreturn hC hT dX1_someGateLets_40
    · refine su_aload_n hC 11 dX1_someGateLets_10 rfl (by decide) (by decide) (?_ : SdS X 11 [(0, 11), (1, 16), (2, 0), (3, 0)] [11] _)
      refine su_getR hC (ci := 1) (j := 6) (C := RX1) (T := TX1) (N := 12) rfl rfl (by decide) in_X1 wl_1_101 rfl dX1_someGateLets_11 (?_ : SdS X 14 [(0, 11), (1, 16), (2, 0), (3, 0)] [200] _)
      refine su_iload_n hC dX1_someGateLets_14 rfl (by decide) (?_ : SdS X 15 [(0, 11), (1, 16), (2, 0), (3, 0)] [0, 200] _)
      refine su_aaload (e := 100) hC (List.mem_of_getElem? (i := 7) rfl) rfl rfl rfl dX1_someGateLets_15 (?_ : SdS X 16 [(0, 11), (1, 16), (2, 0), (3, 0)] [100] _)
      refine su_iconst hC dX1_someGateLets_16 ⟨by decide, by decide⟩ (?_ : SdS X 17 [(0, 11), (1, 16), (2, 0), (3, 0)] [0, 100] _)
      refine su_iaload hC dX1_someGateLets_17 (?_ : SdS X 18 [(0, 11), (1, 16), (2, 0), (3, 0)] [0] _)
      refine su_iload_n hC dX1_someGateLets_18 rfl (by decide) (?_ : SdS X 19 [(0, 11), (1, 16), (2, 0), (3, 0)] [0, 0] _)
      refine su_icmp_ne (tgt := 33) hC dX1_someGateLets_19 rfl (?_ : SdS X 33 [(0, 11), (1, 16), (2, 0), (3, 0)] [] _) (?_ : SdS X 22 [(0, 11), (1, 16), (2, 0), (3, 0)] [] _)
      · exact SdS.weak (by decide) (S_33 k2 h2)
      · refine su_aload_n hC 11 dX1_someGateLets_22 rfl (by decide) (by decide) (?_ : SdS X 23 [(0, 11), (1, 16), (2, 0), (3, 0)] [11] _)
        refine su_aload_n hC 16 dX1_someGateLets_23 rfl (by decide) (by decide) (?_ : SdS X 24 [(0, 11), (1, 16), (2, 0), (3, 0)] [16, 11] _)
        refine su_iload_n hC dX1_someGateLets_24 rfl (by decide) (?_ : SdS X 25 [(0, 11), (1, 16), (2, 0), (3, 0)] [0, 16, 11] _)
        refine su_inv0 (τ := []) (τr := [16, 0]) (ci := 1) (q := (RX1, TX1, 12)) hC WG (M_X1_letsThrough _) rfl rfl rfl rfl  rfl rfl wl_4_54 wl_3_162 wl_3_163 wl_1_2 wl_3_164 hd_X1_letsThrough (by rw [e3]; decide) (by decide) dX1_someGateLets_25 (?_ : SdS X 28 [(0, 11), (1, 16), (2, 0), (3, 0)] [0] _)
        refine su_if_eq (tgt := 33) hC dX1_someGateLets_28 rfl (?_ : SdS X 33 [(0, 11), (1, 16), (2, 0), (3, 0)] [] _) (?_ : SdS X 31 [(0, 11), (1, 16), (2, 0), (3, 0)] [] _)
        · exact SdS.weak (by decide) (S_33 k2 h2)
        · refine su_iconst hC dX1_someGateLets_31 ⟨by decide, by decide⟩ (?_ : SdS X 32 [(0, 11), (1, 16), (2, 0), (3, 0)] [0] _)
          exact su_zreturn hC hT dX1_someGateLets_32
  refine (?_ : SdS X 0 [(0, 11), (1, 16), (2, 0)] [] (E_X1_someGateLets Q))
  unfold E_X1_someGateLets
  refine su_iconst hC dX1_someGateLets_0 ⟨by decide, by decide⟩ (?_ : SdS X 1 [(0, 11), (1, 16), (2, 0)] [0] _)
  refine su_istore_n (Γ' := [(0, 11), (1, 16), (2, 0), (3, 0)]) hC dX1_someGateLets_1 rfl (by rw [e2]; decide) (by decide) (?_ : SdS X 2 [(0, 11), (1, 16), (2, 0), (3, 0)] [] _)
  exact SdS.weak (by decide) (S_2)
theorem wl_4_45 : Cond.methodLink RX1 108 yX1_ringSuits ∈ WALL := tb4 (List.mem_of_getElem? (i := 45) rfl) rfl
theorem wl_4_47 : Cond.instanceMethod yX1_ringSuits ∈ WALL := tb4 (List.mem_of_getElem? (i := 47) rfl) rfl
theorem wp_38 : Cond.selects RX1 yX1_ringSuits yX1_ringSuits ∈ WALL := tbS (List.mem_of_getElem? (i := 38) rfl)
theorem wl_4_48 : Cond.code yX1_ringSuits cX1_ringSuits 4 (some .boolean) ∈ WALL := tb4 (List.mem_of_getElem? (i := 48) rfl) rfl
theorem wl_4_50 : Cond.methodLink RX1 112 yX1_someGateLets ∈ WALL := tb4 (List.mem_of_getElem? (i := 50) rfl) rfl
theorem wl_4_52 : Cond.instanceMethod yX1_someGateLets ∈ WALL := tb4 (List.mem_of_getElem? (i := 52) rfl) rfl
theorem wp_39 : Cond.selects RX1 yX1_someGateLets yX1_someGateLets ∈ WALL := tbS (List.mem_of_getElem? (i := 39) rfl)
theorem wl_4_53 : Cond.code yX1_someGateLets cX1_someGateLets 4 (some .boolean) ∈ WALL := tb4 (List.mem_of_getElem? (i := 53) rfl) rfl
theorem hd_X1_depthOf : yX1_depthOf.cls ≠ "java/lang/invoke/MethodHandle" ∧ yX1_depthOf.cls ≠ "java/lang/invoke/VarHandle" ∧ (parseMethodDescriptor yX1_depthOf.desc).map (fun d => d.parameters.length) = some 2 := by decide +kernel
set_option maxRecDepth 100000 in
set_option maxHeartbeats 4000000 in
theorem M_X1_depthOf (l : Launch) : MtS l yX1_depthOf (Cond.code yX1_depthOf cX1_depthOf 4 (some .int) :: WALL) { frames := 4, cells := 0, slots := 0, locals := 97 } [11, 16, 0] (some 0) T_X1_depthOf := by
  refine MtS.mk (B := E_X1_depthOf) (by decide +kernel) (by decide) (fun _ _ _ hh => hh) ?_
  intro X Q e1 e2 e3 hC hN hT
  subst e1
  have hC : CF X cX1_depthOf RX1 WALL := hC
  have S_52 : SdS X 52 [(0, 11), (1, 16), (2, 0), (3, 0)] [] (B_X1_depthOf_52 Q) := by
    unfold B_X1_depthOf_52
    refine su_iload_n hC dX1_depthOf_52 rfl (by decide) (?_ : SdS X 53 [(0, 11), (1, 16), (2, 0), (3, 0)] [0] _)
    exact su_ireturn hC hT dX1_depthOf_53
  have S_15 : SdS X 15 [(0, 11), (1, 16), (2, 0), (3, 0)] [] (L_X1_depthOf_15 Q) := by
    unfold L_X1_depthOf_15
    refine SdS.loop (fun k15 h15 => ?_)
    refine su_iload_n hC dX1_depthOf_15 rfl (by decide) (?_ : SdS X 16 [(0, 11), (1, 16), (2, 0), (3, 0)] [0] _)
    refine su_iconst hC dX1_depthOf_16 ⟨by decide, by decide⟩ (?_ : SdS X 17 [(0, 11), (1, 16), (2, 0), (3, 0)] [0, 0] _)
    refine su_iadd hC dX1_depthOf_17 (?_ : SdS X 18 [(0, 11), (1, 16), (2, 0), (3, 0)] [0] _)
    refine su_aload_n hC 11 dX1_depthOf_18 rfl (by decide) (by decide) (?_ : SdS X 19 [(0, 11), (1, 16), (2, 0), (3, 0)] [11, 0] _)
    refine su_getF hC (ci := 1) (j := 0) (C := RX1) (T := TX1) (N := 12) rfl rfl (by decide) in_X1 wl_1_77 rfl dX1_depthOf_19 (?_ : SdS X 22 [(0, 11), (1, 16), (2, 0), (3, 0)] [0, 0] _)
    refine su_icmp_ge (tgt := 52) hC dX1_depthOf_22 rfl (?_ : SdS X 52 [(0, 11), (1, 16), (2, 0), (3, 0)] [] _) (?_ : SdS X 25 [(0, 11), (1, 16), (2, 0), (3, 0)] [] _)
    · exact SdS.weak (by decide) (S_52)
    · refine su_aload_n hC 11 dX1_depthOf_25 rfl (by decide) (by decide) (?_ : SdS X 26 [(0, 11), (1, 16), (2, 0), (3, 0)] [11] _)
      refine su_aload_n hC 16 dX1_depthOf_26 rfl (by decide) (by decide) (?_ : SdS X 27 [(0, 11), (1, 16), (2, 0), (3, 0)] [16, 11] _)
      refine su_iload_n hC dX1_depthOf_27 rfl (by decide) (?_ : SdS X 28 [(0, 11), (1, 16), (2, 0), (3, 0)] [0, 16, 11] _)
      refine su_iconst hC dX1_depthOf_28 ⟨by decide, by decide⟩ (?_ : SdS X 29 [(0, 11), (1, 16), (2, 0), (3, 0)] [0, 0, 16, 11] _)
      refine su_iadd hC dX1_depthOf_29 (?_ : SdS X 30 [(0, 11), (1, 16), (2, 0), (3, 0)] [0, 16, 11] _)
      refine su_iload_n hC dX1_depthOf_30 rfl (by decide) (?_ : SdS X 31 [(0, 11), (1, 16), (2, 0), (3, 0)] [0, 0, 16, 11] _)
      refine su_inv0 (τ := []) (τr := [16, 0, 0]) (ci := 1) (q := (RX1, TX1, 12)) hC WG (M_X1_ringSuits _) rfl rfl rfl rfl  rfl rfl wl_4_45 wl_4_47 wp_38 wl_1_2 wl_4_48 hd_X1_ringSuits (by rw [e3]; decide) (by decide) dX1_depthOf_31 (?_ : SdS X 34 [(0, 11), (1, 16), (2, 0), (3, 0)] [0] _)
      refine su_if_eq (tgt := 52) hC dX1_depthOf_34 rfl (?_ : SdS X 52 [(0, 11), (1, 16), (2, 0), (3, 0)] [] _) (?_ : SdS X 37 [(0, 11), (1, 16), (2, 0), (3, 0)] [] _)
      · exact SdS.weak (by decide) (S_52)
      · refine su_aload_n hC 11 dX1_depthOf_37 rfl (by decide) (by decide) (?_ : SdS X 38 [(0, 11), (1, 16), (2, 0), (3, 0)] [11] _)
        refine su_aload_n hC 16 dX1_depthOf_38 rfl (by decide) (by decide) (?_ : SdS X 39 [(0, 11), (1, 16), (2, 0), (3, 0)] [16, 11] _)
        refine su_iload_n hC dX1_depthOf_39 rfl (by decide) (?_ : SdS X 40 [(0, 11), (1, 16), (2, 0), (3, 0)] [0, 16, 11] _)
        refine su_inv0 (τ := []) (τr := [16, 0]) (ci := 1) (q := (RX1, TX1, 12)) hC WG (M_X1_someGateLets _) rfl rfl rfl rfl  rfl rfl wl_4_50 wl_4_52 wp_39 wl_1_2 wl_4_53 hd_X1_someGateLets (by rw [e3]; decide) (by decide) dX1_depthOf_40 (?_ : SdS X 43 [(0, 11), (1, 16), (2, 0), (3, 0)] [0] _)
        refine su_if_eq (tgt := 52) hC dX1_depthOf_43 rfl (?_ : SdS X 52 [(0, 11), (1, 16), (2, 0), (3, 0)] [] _) (?_ : SdS X 46 [(0, 11), (1, 16), (2, 0), (3, 0)] [] _)
        · exact SdS.weak (by decide) (S_52)
        · refine su_iinc (Γ' := [(0, 11), (1, 16), (2, 0), (3, 0)]) hC dX1_depthOf_46 (by decide) (by rw [e2]; decide) (by decide) (?_ : SdS X 49 [(0, 11), (1, 16), (2, 0), (3, 0)] [] _)
          refine su_goto (tgt := 15) hC dX1_depthOf_49 rfl (?_ : SdS X 15 [(0, 11), (1, 16), (2, 0), (3, 0)] [] _)
          exact SdS.weak (by decide) h15
  refine (?_ : SdS X 0 [(0, 11), (1, 16), (2, 0)] [] (E_X1_depthOf Q))
  unfold E_X1_depthOf
  refine su_aload_n hC 11 dX1_depthOf_0 rfl (by decide) (by decide) (?_ : SdS X 1 [(0, 11), (1, 16), (2, 0)] [11] _)
  refine su_aload_n hC 16 dX1_depthOf_1 rfl (by decide) (by decide) (?_ : SdS X 2 [(0, 11), (1, 16), (2, 0)] [16, 11] _)
  refine su_iconst hC dX1_depthOf_2 ⟨by decide, by decide⟩ (?_ : SdS X 3 [(0, 11), (1, 16), (2, 0)] [0, 16, 11] _)
  refine su_iload_n hC dX1_depthOf_3 rfl (by decide) (?_ : SdS X 4 [(0, 11), (1, 16), (2, 0)] [0, 0, 16, 11] _)
  refine su_inv0 (τ := []) (τr := [16, 0, 0]) (ci := 1) (q := (RX1, TX1, 12)) hC WG (M_X1_ringSuits _) rfl rfl rfl rfl  rfl rfl wl_4_45 wl_4_47 wp_38 wl_1_2 wl_4_48 hd_X1_ringSuits (by rw [e3]; decide) (by decide) dX1_depthOf_4 (?_ : SdS X 7 [(0, 11), (1, 16), (2, 0)] [0] _)
  refine su_if_ne (tgt := 13) hC dX1_depthOf_7 rfl (?_ : SdS X 13 [(0, 11), (1, 16), (2, 0)] [] _) (?_ : SdS X 10 [(0, 11), (1, 16), (2, 0)] [] _)
  · refine su_iconst hC dX1_depthOf_13 ⟨by decide, by decide⟩ (?_ : SdS X 14 [(0, 11), (1, 16), (2, 0)] [0] _)
    refine su_istore_n (Γ' := [(0, 11), (1, 16), (2, 0), (3, 0)]) hC dX1_depthOf_14 rfl (by rw [e2]; decide) (by decide) (?_ : SdS X 15 [(0, 11), (1, 16), (2, 0), (3, 0)] [] _)
    exact SdS.weak (by decide) (S_15)
  · refine su_bipush hC dX1_depthOf_10 (by decide) (?_ : SdS X 12 [(0, 11), (1, 16), (2, 0)] [0] _)
    exact su_ireturn hC hT dX1_depthOf_12
theorem hd_J7_fill_53178 : yJ7_fill_53178.cls ≠ "java/lang/invoke/MethodHandle" ∧ yJ7_fill_53178.cls ≠ "java/lang/invoke/VarHandle" ∧ (parseMethodDescriptor yJ7_fill_53178.desc).map (fun d => d.parameters.length) = some 2 := by decide +kernel
set_option maxRecDepth 100000 in
set_option maxHeartbeats 4000000 in
theorem M_J7_fill_53178 (l : Launch) : MtS l yJ7_fill_53178 (Cond.code yJ7_fill_53178 cJ7_fill_53178 4 none :: WALL) { frames := 0, cells := 0, slots := 0, locals := 0 } [100, 0] none T_J7_fill_53178 := by
  refine MtS.mk (B := E_J7_fill_53178) (by decide +kernel) (by decide) (fun _ _ _ hh => hh) ?_
  intro X Q e1 e2 e3 hC hN hT
  subst e1
  have hC : CF X cJ7_fill_53178 RJ7 WALL := hC
  have S_5 : SdS X 5 [(0, 100), (1, 0), (2, 0), (3, 0)] [] (L_J7_fill_53178_5 Q) := by
    unfold L_J7_fill_53178_5
    refine SdS.loop (fun k5 h5 => ?_)
    refine su_iload_n hC dJ7_fill_53178_5 rfl (by decide) (?_ : SdS X 6 [(0, 100), (1, 0), (2, 0), (3, 0)] [0] _)
    refine su_iload_n hC dJ7_fill_53178_6 rfl (by decide) (?_ : SdS X 7 [(0, 100), (1, 0), (2, 0), (3, 0)] [0, 0] _)
    refine su_icmp_ge (tgt := 20) hC dJ7_fill_53178_7 rfl (?_ : SdS X 20 [(0, 100), (1, 0), (2, 0), (3, 0)] [] _) (?_ : SdS X 10 [(0, 100), (1, 0), (2, 0), (3, 0)] [] _)
    · exact su_return hC hT dJ7_fill_53178_20
    · refine su_aload_n hC 100 dJ7_fill_53178_10 rfl (by decide) (by decide) (?_ : SdS X 11 [(0, 100), (1, 0), (2, 0), (3, 0)] [100] _)
      refine su_iload_n hC dJ7_fill_53178_11 rfl (by decide) (?_ : SdS X 12 [(0, 100), (1, 0), (2, 0), (3, 0)] [0, 100] _)
      refine su_iload_n hC dJ7_fill_53178_12 rfl (by decide) (?_ : SdS X 13 [(0, 100), (1, 0), (2, 0), (3, 0)] [0, 0, 100] _)
      refine su_iastore hC dJ7_fill_53178_13 (?_ : SdS X 14 [(0, 100), (1, 0), (2, 0), (3, 0)] [] _)
      refine su_iinc (Γ' := [(0, 100), (1, 0), (2, 0), (3, 0)]) hC dJ7_fill_53178_14 (by decide) (by rw [e2]; decide) (by decide) (?_ : SdS X 17 [(0, 100), (1, 0), (2, 0), (3, 0)] [] _)
      refine su_goto (tgt := 5) hC dJ7_fill_53178_17 rfl (?_ : SdS X 5 [(0, 100), (1, 0), (2, 0), (3, 0)] [] _)
      exact SdS.weak (by decide) h5
  refine (?_ : SdS X 0 [(0, 100), (1, 0)] [] (E_J7_fill_53178 Q))
  unfold E_J7_fill_53178
  refine su_iconst hC dJ7_fill_53178_0 ⟨by decide, by decide⟩ (?_ : SdS X 1 [(0, 100), (1, 0)] [0] _)
  refine su_istore_n (Γ' := [(0, 100), (1, 0), (2, 0)]) hC dJ7_fill_53178_1 rfl (by rw [e2]; decide) (by decide) (?_ : SdS X 2 [(0, 100), (1, 0), (2, 0)] [] _)
  refine su_aload_n hC 100 dJ7_fill_53178_2 rfl (by decide) (by decide) (?_ : SdS X 3 [(0, 100), (1, 0), (2, 0)] [100] _)
  refine su_alen (e := 0) hC (List.mem_of_getElem? (i := 0) rfl) dJ7_fill_53178_3 (?_ : SdS X 4 [(0, 100), (1, 0), (2, 0)] [0] _)
  refine su_istore_n (Γ' := [(0, 100), (1, 0), (2, 0), (3, 0)]) hC dJ7_fill_53178_4 rfl (by rw [e2]; decide) (by decide) (?_ : SdS X 5 [(0, 100), (1, 0), (2, 0), (3, 0)] [] _)
  exact SdS.weak (by decide) (S_5)
theorem wl_1_92 : Cond.fieldLink RX1 49 "NarrowRings$City" "goods" "I" ∈ WALL := tb1 (List.mem_of_getElem? (i := 92) rfl) rfl
theorem wl_1_95 : Cond.fieldLink RX1 52 "NarrowRings$City" "orders" "I" ∈ WALL := tb1 (List.mem_of_getElem? (i := 95) rfl) rfl
theorem wl_2_187 : Cond.methodLink RX1 55 yJ7_fill_53178 ∈ WALL := tb2 (List.mem_of_getElem? (i := 187) rfl) rfl
theorem wl_2_188 : Cond.static yJ7_fill_53178 ∈ WALL := tb2 (List.mem_of_getElem? (i := 188) rfl) rfl
theorem wl_1_11 : Cond.initialized RJ7 ∈ WALL := tb1 (List.mem_of_getElem? (i := 11) rfl) rfl
theorem wl_2_189 : Cond.code yJ7_fill_53178 cJ7_fill_53178 4 none ∈ WALL := tb2 (List.mem_of_getElem? (i := 189) rfl) rfl
theorem hd_X1_empty : yX1_empty.cls ≠ "java/lang/invoke/MethodHandle" ∧ yX1_empty.cls ≠ "java/lang/invoke/VarHandle" ∧ (parseMethodDescriptor yX1_empty.desc).map (fun d => d.parameters.length) = some 0 := by decide +kernel
set_option maxRecDepth 100000 in
set_option maxHeartbeats 4000000 in
theorem M_X1_empty (l : Launch) : MtS l yX1_empty (Cond.code yX1_empty cX1_empty 2 none :: WALL) { frames := 1, cells := 0, slots := 0, locals := 23 } [11] none T_X1_empty := by
  refine MtS.mk (B := E_X1_empty) (by decide +kernel) (by decide) (fun _ _ _ hh => hh) ?_
  intro X Q e1 e2 e3 hC hN hT
  subst e1
  have hC : CF X cX1_empty RX1 WALL := hC
  have S_27 : SdS X 27 [(0, 11), (1, 0)] [] (L_X1_empty_27 Q) := by
    unfold L_X1_empty_27
    refine SdS.loop (fun k27 h27 => ?_)
    refine su_iload_n hC dX1_empty_27 rfl (by decide) (?_ : SdS X 28 [(0, 11), (1, 0)] [0] _)
    refine su_bipush hC dX1_empty_28 (by decide) (?_ : SdS X 30 [(0, 11), (1, 0)] [0, 0] _)
    refine su_icmp_ge (tgt := 49) hC dX1_empty_30 rfl (?_ : SdS X 49 [(0, 11), (1, 0)] [] _) (?_ : SdS X 33 [(0, 11), (1, 0)] [] _)
    · exact su_return hC hT dX1_empty_49
    · refine su_aload_n hC 11 dX1_empty_33 rfl (by decide) (by decide) (?_ : SdS X 34 [(0, 11), (1, 0)] [11] _)
      refine su_getR hC (ci := 1) (j := 8) (C := RX1) (T := TX1) (N := 12) rfl rfl (by decide) in_X1 wl_1_110 rfl dX1_empty_34 (?_ : SdS X 37 [(0, 11), (1, 0)] [200] _)
      refine su_iload_n hC dX1_empty_37 rfl (by decide) (?_ : SdS X 38 [(0, 11), (1, 0)] [0, 200] _)
      refine su_aaload (e := 100) hC (List.mem_of_getElem? (i := 7) rfl) rfl rfl rfl dX1_empty_38 (?_ : SdS X 39 [(0, 11), (1, 0)] [100] _)
      refine su_iconst hC dX1_empty_39 ⟨by decide, by decide⟩ (?_ : SdS X 40 [(0, 11), (1, 0)] [0, 100] _)
      refine su_invsv (τ := []) (τs := [100, 0]) hC false "" WG (M_J7_fill_53178 _) rfl rfl rfl rfl wl_2_187 wl_2_188 wl_1_11 wl_2_189 hd_J7_fill_53178 (by rw [e3]; decide) (by decide) dX1_empty_40 (?_ : SdS X 43 [(0, 11), (1, 0)] [] _)
      refine su_iinc (Γ' := [(0, 11), (1, 0)]) hC dX1_empty_43 (by decide) (by rw [e2]; decide) (by decide) (?_ : SdS X 46 [(0, 11), (1, 0)] [] _)
      refine su_goto (tgt := 27) hC dX1_empty_46 rfl (?_ : SdS X 27 [(0, 11), (1, 0)] [] _)
      exact SdS.weak (by decide) h27
  refine (?_ : SdS X 0 [(0, 11)] [] (E_X1_empty Q))
  unfold E_X1_empty
  refine su_aload_n hC 11 dX1_empty_0 rfl (by decide) (by decide) (?_ : SdS X 1 [(0, 11)] [11] _)
  refine su_iconst hC dX1_empty_1 ⟨by decide, by decide⟩ (?_ : SdS X 2 [(0, 11)] [0, 11] _)
  refine su_putF hC (ci := 1) (j := 0) (C := RX1) (T := TX1) (N := 12) tyX1 tyX1_ok nmX1 rfl rfl (by decide) in_X1 rfl rfl wl_1_77 rfl dX1_empty_2 (?_ : SdS X 5 [(0, 11)] [] _)
  refine su_aload_n hC 11 dX1_empty_5 rfl (by decide) (by decide) (?_ : SdS X 6 [(0, 11)] [11] _)
  refine su_iconst hC dX1_empty_6 ⟨by decide, by decide⟩ (?_ : SdS X 7 [(0, 11)] [0, 11] _)
  refine su_putF hC (ci := 1) (j := 1) (C := RX1) (T := TX1) (N := 12) tyX1 tyX1_ok nmX1 rfl rfl (by decide) in_X1 rfl rfl wl_1_82 rfl dX1_empty_7 (?_ : SdS X 10 [(0, 11)] [] _)
  refine su_aload_n hC 11 dX1_empty_10 rfl (by decide) (by decide) (?_ : SdS X 11 [(0, 11)] [11] _)
  refine su_iconst hC dX1_empty_11 ⟨by decide, by decide⟩ (?_ : SdS X 12 [(0, 11)] [0, 11] _)
  refine su_putF hC (ci := 1) (j := 2) (C := RX1) (T := TX1) (N := 12) tyX1 tyX1_ok nmX1 rfl rfl (by decide) in_X1 rfl rfl wl_1_88 rfl dX1_empty_12 (?_ : SdS X 15 [(0, 11)] [] _)
  refine su_aload_n hC 11 dX1_empty_15 rfl (by decide) (by decide) (?_ : SdS X 16 [(0, 11)] [11] _)
  refine su_iconst hC dX1_empty_16 ⟨by decide, by decide⟩ (?_ : SdS X 17 [(0, 11)] [0, 11] _)
  refine su_putF hC (ci := 1) (j := 3) (C := RX1) (T := TX1) (N := 12) tyX1 tyX1_ok nmX1 rfl rfl (by decide) in_X1 rfl rfl wl_1_92 rfl dX1_empty_17 (?_ : SdS X 20 [(0, 11)] [] _)
  refine su_aload_n hC 11 dX1_empty_20 rfl (by decide) (by decide) (?_ : SdS X 21 [(0, 11)] [11] _)
  refine su_iconst hC dX1_empty_21 ⟨by decide, by decide⟩ (?_ : SdS X 22 [(0, 11)] [0, 11] _)
  refine su_putF hC (ci := 1) (j := 4) (C := RX1) (T := TX1) (N := 12) tyX1 tyX1_ok nmX1 rfl rfl (by decide) in_X1 rfl rfl wl_1_95 rfl dX1_empty_22 (?_ : SdS X 25 [(0, 11)] [] _)
  refine su_iconst hC dX1_empty_25 ⟨by decide, by decide⟩ (?_ : SdS X 26 [(0, 11)] [0] _)
  refine su_istore_n (Γ' := [(0, 11), (1, 0)]) hC dX1_empty_26 rfl (by rw [e2]; decide) (by decide) (?_ : SdS X 27 [(0, 11), (1, 0)] [] _)
  exact SdS.weak (by decide) (S_27)
theorem wl_1_45 : Cond.methodLink RX6 1 Lib.objectInit ∈ WALL := tb1 (List.mem_of_getElem? (i := 45) rfl) rfl
theorem wl_1_46 : Cond.fieldLink RX6 9 "NarrowRings$Thing" "length" "[I" ∈ WALL := tb1 (List.mem_of_getElem? (i := 46) rfl) rfl
theorem wl_1_50 : Cond.fieldLink RX6 16 "NarrowRings$Thing" "high" "[I" ∈ WALL := tb1 (List.mem_of_getElem? (i := 50) rfl) rfl
theorem hd_X6_init : yX6_init.cls ≠ "java/lang/invoke/MethodHandle" ∧ yX6_init.cls ≠ "java/lang/invoke/VarHandle" ∧ (parseMethodDescriptor yX6_init.desc).map (fun d => d.parameters.length) = some 0 := by decide +kernel
set_option maxRecDepth 100000 in
set_option maxHeartbeats 4000000 in
theorem M_X6_init (l : Launch) : MtS l yX6_init (Cond.code yX6_init cX6_init 1 none :: WALL) { frames := 1, cells := 3, slots := 9, locals := 20 } [16] none T_X6_init := by
  refine MtS.mk (B := E_X6_init) (by decide +kernel) (by decide) (fun _ _ _ hh => hh) ?_
  intro X Q e1 e2 e3 hC hN hT
  subst e1
  have hC : CF X cX6_init RX6 WALL := hC
  refine (?_ : SdS X 0 [(0, 16)] [] (E_X6_init Q))
  unfold E_X6_init
  refine su_aload_n hC 16 dX6_init_0 rfl (by decide) (by decide) (?_ : SdS X 1 [(0, 16)] [16] _)
  refine su_objInit hC (by decide) wl_1_45 wl_1_29 wl_1_30 (by rw [e3]; decide) (by decide) dX6_init_1 (?_ : SdS X 4 [(0, 16)] [] _)
  refine su_aload_n hC 16 dX6_init_4 rfl (by decide) (by decide) (?_ : SdS X 5 [(0, 16)] [16] _)
  refine su_iconst hC dX6_init_5 ⟨by decide, by decide⟩ (?_ : SdS X 6 [(0, 16)] [0, 16] _)
  refine su_newa hC (atype := .int) (e := 0) (List.mem_of_getElem? (i := 0) rfl) (fun C z => by cases z) rfl (by decide) wl_1_76 (by rw [e3]) (by rw [e3]) dX6_init_6 (?_ : SdS X 8 [(0, 16)] [100, 16] _)
  refine su_putRF hC (ci := 6) (j := 0) (C := RX6) (T := TX6) (N := 7) tyX6 tyX6_ok nmX6 rfl rfl (by decide) in_X6 rfl rfl rfl hN wl_1_46 rfl dX6_init_8 (?_ : SdS X 11 [(0, 16)] [] _)
  refine su_aload_n hC 16 dX6_init_11 rfl (by decide) (by decide) (?_ : SdS X 12 [(0, 16)] [16] _)
  refine su_iconst hC dX6_init_12 ⟨by decide, by decide⟩ (?_ : SdS X 13 [(0, 16)] [0, 16] _)
  refine su_newa hC (atype := .int) (e := 0) (List.mem_of_getElem? (i := 0) rfl) (fun C z => by cases z) rfl (by decide) wl_1_76 (by rw [e3]) (by rw [e3]) dX6_init_13 (?_ : SdS X 15 [(0, 16)] [100, 16] _)
  refine su_putRF hC (ci := 6) (j := 1) (C := RX6) (T := TX6) (N := 7) tyX6 tyX6_ok nmX6 rfl rfl (by decide) in_X6 rfl rfl rfl hN wl_1_48 rfl dX6_init_15 (?_ : SdS X 18 [(0, 16)] [] _)
  refine su_aload_n hC 16 dX6_init_18 rfl (by decide) (by decide) (?_ : SdS X 19 [(0, 16)] [16] _)
  refine su_iconst hC dX6_init_19 ⟨by decide, by decide⟩ (?_ : SdS X 20 [(0, 16)] [0, 16] _)
  refine su_newa hC (atype := .int) (e := 0) (List.mem_of_getElem? (i := 0) rfl) (fun C z => by cases z) rfl (by decide) wl_1_76 (by rw [e3]) (by rw [e3]) dX6_init_20 (?_ : SdS X 22 [(0, 16)] [100, 16] _)
  refine su_putRF hC (ci := 6) (j := 2) (C := RX6) (T := TX6) (N := 7) tyX6 tyX6_ok nmX6 rfl rfl (by decide) in_X6 rfl rfl rfl hN wl_1_50 rfl dX6_init_22 (?_ : SdS X 25 [(0, 16)] [] _)
  exact su_return hC hT dX6_init_25
theorem wl_1_36 : Cond.methodLink RX1 3 Lib.objectInit ∈ WALL := tb1 (List.mem_of_getElem? (i := 36) rfl) rfl
theorem wl_1_37 : Cond.classLink RX1 15 "[[I" ∈ WALL := tb1 (List.mem_of_getElem? (i := 37) rfl) rfl
theorem wl_1_112 : Cond.fieldLink RX1 26 "NarrowRings$City" "order" "[[I" ∈ WALL := tb1 (List.mem_of_getElem? (i := 112) rfl) rfl
theorem wl_1_39 : Cond.classLink RX1 29 RX6 ∈ WALL := tb1 (List.mem_of_getElem? (i := 39) rfl) rfl
theorem wl_1_116 : Cond.fieldLink RX1 31 "NarrowRings$City" "whole" "[LNarrowRings$Thing;" ∈ WALL := tb1 (List.mem_of_getElem? (i := 116) rfl) rfl
theorem wl_1_41 : Cond.instantiable RX6 7 ∈ WALL := tb1 (List.mem_of_getElem? (i := 41) rfl) rfl
theorem wl_1_42 : Cond.methodLink RX1 38 yX6_init ∈ WALL := tb1 (List.mem_of_getElem? (i := 42) rfl) rfl
theorem wl_1_43 : Cond.instanceMethod yX6_init ∈ WALL := tb1 (List.mem_of_getElem? (i := 43) rfl) rfl
theorem wl_1_44 : Cond.code yX6_init cX6_init 1 none ∈ WALL := tb1 (List.mem_of_getElem? (i := 44) rfl) rfl
theorem hd_X1_init : yX1_init.cls ≠ "java/lang/invoke/MethodHandle" ∧ yX1_init.cls ≠ "java/lang/invoke/VarHandle" ∧ (parseMethodDescriptor yX1_init.desc).map (fun d => d.parameters.length) = some 0 := by decide +kernel
set_option maxRecDepth 100000 in
set_option maxHeartbeats 4000000 in
theorem M_X1_init (l : Launch) : MtS l yX1_init (Cond.code yX1_init cX1_init 2 none :: WALL) { frames := 2, cells := 104, slots := 470, locals := 40 } [11] none T_X1_init := by
  refine MtS.mk (B := E_X1_init) (by decide +kernel) (by decide) (fun _ _ _ hh => hh) ?_
  intro X Q e1 e2 e3 hC hN hT
  subst e1
  have hC : CF X cX1_init RX1 WALL := hC
  have S_78 : SdS X 78 [(0, 11), (1, 0)] [] (L_X1_init_78 Q) := by
    unfold L_X1_init_78
    refine SdS.loop (fun k78 h78 => ?_)
    refine su_iload_n hC dX1_init_78 rfl (by decide) (?_ : SdS X 79 [(0, 11), (1, 0)] [0] _)
    refine su_bipush hC dX1_init_79 (by decide) (?_ : SdS X 81 [(0, 11), (1, 0)] [0, 0] _)
    refine su_icmp_ge (tgt := 116) hC dX1_init_81 rfl (?_ : SdS X 116 [(0, 11), (1, 0)] [] _) (?_ : SdS X 84 [(0, 11), (1, 0)] [] _)
    · exact su_return hC hT dX1_init_116
    · refine su_aload_n hC 11 dX1_init_84 rfl (by decide) (by decide) (?_ : SdS X 85 [(0, 11), (1, 0)] [11] _)
      refine su_getR hC (ci := 1) (j := 10) (C := RX1) (T := TX1) (N := 12) rfl rfl (by decide) in_X1 wl_1_116 rfl dX1_init_85 (?_ : SdS X 88 [(0, 11), (1, 0)] [116] _)
      refine su_iload_n hC dX1_init_88 rfl (by decide) (?_ : SdS X 89 [(0, 11), (1, 0)] [0, 116] _)
      refine su_new hC (ci := 6) (C := RX6) (T := TX6) (N := 7) tyX6 tyX6_ok (by decide) rfl in_X6 wl_1_39 wl_1_41 wl_1_3 (by rw [e3]) (by rw [e3]) dX1_init_89 (?_ : SdS X 92 [(0, 11), (1, 0)] [16, 0, 116] _)
      refine su_dup hC (by decide) dX1_init_92 (?_ : SdS X 93 [(0, 11), (1, 0)] [16, 16, 0, 116] _)
      refine su_invi (τ := [16, 0, 116]) (τr := []) (ci := 6) hC WG (M_X6_init _) rfl rfl rfl rfl (by rw [e3]) (by rw [e3]) rfl wl_1_42 wl_1_43 wl_1_3 wl_1_44 hd_X6_init (by rw [e3]; decide) (by decide) dX1_init_93 (?_ : SdS X 96 [(0, 11), (1, 0)] [16, 0, 116] _)
      refine su_aastore hC (ci := 6) (q := (RX6, TX6, 7)) (List.mem_of_getElem? (i := 5) rfl) rfl dX1_init_96 (?_ : SdS X 97 [(0, 11), (1, 0)] [] _)
      refine su_aload_n hC 11 dX1_init_97 rfl (by decide) (by decide) (?_ : SdS X 98 [(0, 11), (1, 0)] [11] _)
      refine su_getR hC (ci := 1) (j := 11) (C := RX1) (T := TX1) (N := 12) rfl rfl (by decide) in_X1 wl_1_119 rfl dX1_init_98 (?_ : SdS X 101 [(0, 11), (1, 0)] [116] _)
      refine su_iload_n hC dX1_init_101 rfl (by decide) (?_ : SdS X 102 [(0, 11), (1, 0)] [0, 116] _)
      refine su_new hC (ci := 6) (C := RX6) (T := TX6) (N := 7) tyX6 tyX6_ok (by decide) rfl in_X6 wl_1_39 wl_1_41 wl_1_3 (by rw [e3]) (by rw [e3]) dX1_init_102 (?_ : SdS X 105 [(0, 11), (1, 0)] [16, 0, 116] _)
      refine su_dup hC (by decide) dX1_init_105 (?_ : SdS X 106 [(0, 11), (1, 0)] [16, 16, 0, 116] _)
      refine su_invi (τ := [16, 0, 116]) (τr := []) (ci := 6) hC WG (M_X6_init _) rfl rfl rfl rfl (by rw [e3]) (by rw [e3]) rfl wl_1_42 wl_1_43 wl_1_3 wl_1_44 hd_X6_init (by rw [e3]; decide) (by decide) dX1_init_106 (?_ : SdS X 109 [(0, 11), (1, 0)] [16, 0, 116] _)
      refine su_aastore hC (ci := 6) (q := (RX6, TX6, 7)) (List.mem_of_getElem? (i := 5) rfl) rfl dX1_init_109 (?_ : SdS X 110 [(0, 11), (1, 0)] [] _)
      refine su_iinc (Γ' := [(0, 11), (1, 0)]) hC dX1_init_110 (by decide) (by rw [e2]; decide) (by decide) (?_ : SdS X 113 [(0, 11), (1, 0)] [] _)
      refine su_goto (tgt := 78) hC dX1_init_113 rfl (?_ : SdS X 78 [(0, 11), (1, 0)] [] _)
      exact SdS.weak (by decide) h78
  refine (?_ : SdS X 0 [(0, 11)] [] (E_X1_init Q))
  unfold E_X1_init
  refine su_aload_n hC 11 dX1_init_0 rfl (by decide) (by decide) (?_ : SdS X 1 [(0, 11)] [11] _)
  refine su_objInit hC (by decide) wl_1_36 wl_1_29 wl_1_30 (by rw [e3]; decide) (by decide) dX1_init_1 (?_ : SdS X 4 [(0, 11)] [] _)
  refine su_aload_n hC 11 dX1_init_4 rfl (by decide) (by decide) (?_ : SdS X 5 [(0, 11)] [11] _)
  refine su_bipush hC dX1_init_5 (by decide) (?_ : SdS X 7 [(0, 11)] [0, 11] _)
  refine su_newa hC (atype := .int) (e := 0) (List.mem_of_getElem? (i := 0) rfl) (fun C z => by cases z) rfl (by decide) wl_1_76 (by rw [e3]) (by rw [e3]) dX1_init_7 (?_ : SdS X 9 [(0, 11)] [100, 11] _)
  refine su_putRF hC (ci := 1) (j := 5) (C := RX1) (T := TX1) (N := 12) tyX1 tyX1_ok nmX1 rfl rfl (by decide) in_X1 rfl rfl rfl hN wl_1_99 rfl dX1_init_9 (?_ : SdS X 12 [(0, 11)] [] _)
  refine su_aload_n hC 11 dX1_init_12 rfl (by decide) (by decide) (?_ : SdS X 13 [(0, 11)] [11] _)
  refine su_bipush hC dX1_init_13 (by decide) (?_ : SdS X 15 [(0, 11)] [0, 11] _)
  refine su_bipush hC dX1_init_15 (by decide) (?_ : SdS X 17 [(0, 11)] [0, 0, 11] _)
  refine su_mna hC wl_1_37 wl_1_76 (by rw [e3]) (by rw [e3]) dX1_init_17 (?_ : SdS X 21 [(0, 11)] [200, 11] _)
  refine su_putRF hC (ci := 1) (j := 6) (C := RX1) (T := TX1) (N := 12) tyX1 tyX1_ok nmX1 rfl rfl (by decide) in_X1 rfl rfl rfl hN wl_1_101 rfl dX1_init_21 (?_ : SdS X 24 [(0, 11)] [] _)
  refine su_aload_n hC 11 dX1_init_24 rfl (by decide) (by decide) (?_ : SdS X 25 [(0, 11)] [11] _)
  refine su_bipush hC dX1_init_25 (by decide) (?_ : SdS X 27 [(0, 11)] [0, 11] _)
  refine su_iconst hC dX1_init_27 ⟨by decide, by decide⟩ (?_ : SdS X 28 [(0, 11)] [0, 0, 11] _)
  refine su_mna hC wl_1_37 wl_1_76 (by rw [e3]) (by rw [e3]) dX1_init_28 (?_ : SdS X 32 [(0, 11)] [200, 11] _)
  refine su_putRF hC (ci := 1) (j := 7) (C := RX1) (T := TX1) (N := 12) tyX1 tyX1_ok nmX1 rfl rfl (by decide) in_X1 rfl rfl rfl hN wl_1_108 rfl dX1_init_32 (?_ : SdS X 35 [(0, 11)] [] _)
  refine su_aload_n hC 11 dX1_init_35 rfl (by decide) (by decide) (?_ : SdS X 36 [(0, 11)] [11] _)
  refine su_bipush hC dX1_init_36 (by decide) (?_ : SdS X 38 [(0, 11)] [0, 11] _)
  refine su_iconst hC dX1_init_38 ⟨by decide, by decide⟩ (?_ : SdS X 39 [(0, 11)] [0, 0, 11] _)
  refine su_mna hC wl_1_37 wl_1_76 (by rw [e3]) (by rw [e3]) dX1_init_39 (?_ : SdS X 43 [(0, 11)] [200, 11] _)
  refine su_putRF hC (ci := 1) (j := 8) (C := RX1) (T := TX1) (N := 12) tyX1 tyX1_ok nmX1 rfl rfl (by decide) in_X1 rfl rfl rfl hN wl_1_110 rfl dX1_init_43 (?_ : SdS X 46 [(0, 11)] [] _)
  refine su_aload_n hC 11 dX1_init_46 rfl (by decide) (by decide) (?_ : SdS X 47 [(0, 11)] [11] _)
  refine su_bipush hC dX1_init_47 (by decide) (?_ : SdS X 49 [(0, 11)] [0, 11] _)
  refine su_bipush hC dX1_init_49 (by decide) (?_ : SdS X 51 [(0, 11)] [0, 0, 11] _)
  refine su_mna hC wl_1_37 wl_1_76 (by rw [e3]) (by rw [e3]) dX1_init_51 (?_ : SdS X 55 [(0, 11)] [200, 11] _)
  refine su_putRF hC (ci := 1) (j := 9) (C := RX1) (T := TX1) (N := 12) tyX1 tyX1_ok nmX1 rfl rfl (by decide) in_X1 rfl rfl rfl hN wl_1_112 rfl dX1_init_55 (?_ : SdS X 58 [(0, 11)] [] _)
  refine su_aload_n hC 11 dX1_init_58 rfl (by decide) (by decide) (?_ : SdS X 59 [(0, 11)] [11] _)
  refine su_bipush hC dX1_init_59 (by decide) (?_ : SdS X 61 [(0, 11)] [0, 11] _)
  refine su_anew hC (C := RX6) (e := 16) (List.mem_of_getElem? (i := 5) rfl) rfl (by decide) wl_1_39 (by rw [e3]) (by rw [e3]) dX1_init_61 (?_ : SdS X 64 [(0, 11)] [116, 11] _)
  refine su_putRF hC (ci := 1) (j := 10) (C := RX1) (T := TX1) (N := 12) tyX1 tyX1_ok nmX1 rfl rfl (by decide) in_X1 rfl rfl rfl hN wl_1_116 rfl dX1_init_64 (?_ : SdS X 67 [(0, 11)] [] _)
  refine su_aload_n hC 11 dX1_init_67 rfl (by decide) (by decide) (?_ : SdS X 68 [(0, 11)] [11] _)
  refine su_bipush hC dX1_init_68 (by decide) (?_ : SdS X 70 [(0, 11)] [0, 11] _)
  refine su_anew hC (C := RX6) (e := 16) (List.mem_of_getElem? (i := 5) rfl) rfl (by decide) wl_1_39 (by rw [e3]) (by rw [e3]) dX1_init_70 (?_ : SdS X 73 [(0, 11)] [116, 11] _)
  refine su_putRF hC (ci := 1) (j := 11) (C := RX1) (T := TX1) (N := 12) tyX1 tyX1_ok nmX1 rfl rfl (by decide) in_X1 rfl rfl rfl hN wl_1_119 rfl dX1_init_73 (?_ : SdS X 76 [(0, 11)] [] _)
  refine su_iconst hC dX1_init_76 ⟨by decide, by decide⟩ (?_ : SdS X 77 [(0, 11)] [0] _)
  refine su_istore_n (Γ' := [(0, 11), (1, 0)]) hC dX1_init_77 rfl (by rw [e2]; decide) (by decide) (?_ : SdS X 78 [(0, 11), (1, 0)] [] _)
  exact SdS.weak (by decide) (S_78)
theorem hd_X8_upwards : yX8_upwards.cls ≠ "java/lang/invoke/MethodHandle" ∧ yX8_upwards.cls ≠ "java/lang/invoke/VarHandle" ∧ (parseMethodDescriptor yX8_upwards.desc).map (fun d => d.parameters.length) = some 2 := by decide +kernel
set_option maxRecDepth 100000 in
set_option maxHeartbeats 4000000 in
theorem M_X8_upwards (l : Launch) : MtS l yX8_upwards (Cond.code yX8_upwards cX8_upwards 2 (some .int) :: WALL) { frames := 0, cells := 0, slots := 0, locals := 0 } [0, 0] (some 0) T_X8_upwards := by
  refine MtS.mk (B := E_X8_upwards) (by decide +kernel) (by decide) (fun _ _ _ hh => hh) ?_
  intro X Q e1 e2 e3 hC hN hT
  subst e1
  have hC : CF X cX8_upwards RX8 WALL := hC
  have S_16 : SdS X 16 [(0, 0), (1, 0)] [0] (B_X8_upwards_16 Q) := by
    unfold B_X8_upwards_16
    exact su_ireturn hC hT dX8_upwards_16
  refine (?_ : SdS X 0 [(0, 0), (1, 0)] [] (E_X8_upwards Q))
  unfold E_X8_upwards
  refine su_iload_n hC dX8_upwards_0 rfl (by decide) (?_ : SdS X 1 [(0, 0), (1, 0)] [0] _)
  refine su_iconst hC dX8_upwards_1 ⟨by decide, by decide⟩ (?_ : SdS X 2 [(0, 0), (1, 0)] [0, 0] _)
  refine su_icmp_gt (tgt := 9) hC dX8_upwards_2 rfl (?_ : SdS X 9 [(0, 0), (1, 0)] [] _) (?_ : SdS X 5 [(0, 0), (1, 0)] [] _)
  · refine su_iload_n hC dX8_upwards_9 rfl (by decide) (?_ : SdS X 10 [(0, 0), (1, 0)] [0] _)
    refine su_iload_n hC dX8_upwards_10 rfl (by decide) (?_ : SdS X 11 [(0, 0), (1, 0)] [0, 0] _)
    refine su_iadd hC dX8_upwards_11 (?_ : SdS X 12 [(0, 0), (1, 0)] [0] _)
    refine su_iconst hC dX8_upwards_12 ⟨by decide, by decide⟩ (?_ : SdS X 13 [(0, 0), (1, 0)] [0, 0] _)
    refine su_isub hC dX8_upwards_13 (?_ : SdS X 14 [(0, 0), (1, 0)] [0] _)
    refine su_iload_n hC dX8_upwards_14 rfl (by decide) (?_ : SdS X 15 [(0, 0), (1, 0)] [0, 0] _)
    refine su_idiv hC dX8_upwards_15 (?_ : SdS X 16 [(0, 0), (1, 0)] [0] _)
    exact SdS.weak (by decide) (S_16)
  · refine su_iload_n hC dX8_upwards_5 rfl (by decide) (?_ : SdS X 6 [(0, 0), (1, 0)] [0] _)
    refine su_goto (tgt := 16) hC dX8_upwards_6 rfl (?_ : SdS X 16 [(0, 0), (1, 0)] [0] _)
    exact SdS.weak (by decide) (S_16)
theorem wl_3_97 : Cond.static yX8_upwards ∈ WALL := tb3 (List.mem_of_getElem? (i := 97) rfl) rfl
theorem wl_1_1 : Cond.initialized RX8 ∈ WALL := tb1 (List.mem_of_getElem? (i := 1) rfl) rfl
theorem wl_3_98 : Cond.code yX8_upwards cX8_upwards 2 (some .int) ∈ WALL := tb3 (List.mem_of_getElem? (i := 98) rfl) rfl
theorem hd_X1_loadingHours : yX1_loadingHours.cls ≠ "java/lang/invoke/MethodHandle" ∧ yX1_loadingHours.cls ≠ "java/lang/invoke/VarHandle" ∧ (parseMethodDescriptor yX1_loadingHours.desc).map (fun d => d.parameters.length) = some 2 := by decide +kernel
set_option maxRecDepth 100000 in
set_option maxHeartbeats 4000000 in
theorem M_X1_loadingHours (l : Launch) : MtS l yX1_loadingHours (Cond.code yX1_loadingHours cX1_loadingHours 3 (some .int) :: WALL) { frames := 1, cells := 0, slots := 0, locals := 21 } [11, 16, 0] (some 0) T_X1_loadingHours := by
  refine MtS.mk (B := E_X1_loadingHours) (by decide +kernel) (by decide) (fun _ _ _ hh => hh) ?_
  intro X Q e1 e2 e3 hC hN hT
  subst e1
  have hC : CF X cX1_loadingHours RX1 WALL := hC
  refine (?_ : SdS X 0 [(0, 11), (1, 16), (2, 0)] [] (E_X1_loadingHours Q))
  unfold E_X1_loadingHours
  refine su_aload_n hC 16 dX1_loadingHours_0 rfl (by decide) (by decide) (?_ : SdS X 1 [(0, 11), (1, 16), (2, 0)] [16] _)
  refine su_getF hC (ci := 6) (j := 3) (C := RX6) (T := TX6) (N := 7) rfl rfl (by decide) in_X6 wl_1_52 rfl dX1_loadingHours_1 (?_ : SdS X 4 [(0, 11), (1, 16), (2, 0)] [0] _)
  refine su_aload_n hC 11 dX1_loadingHours_4 rfl (by decide) (by decide) (?_ : SdS X 5 [(0, 11), (1, 16), (2, 0)] [11, 0] _)
  refine su_getR hC (ci := 1) (j := 6) (C := RX1) (T := TX1) (N := 12) rfl rfl (by decide) in_X1 wl_1_101 rfl dX1_loadingHours_5 (?_ : SdS X 8 [(0, 11), (1, 16), (2, 0)] [200, 0] _)
  refine su_iload_n hC dX1_loadingHours_8 rfl (by decide) (?_ : SdS X 9 [(0, 11), (1, 16), (2, 0)] [0, 200, 0] _)
  refine su_aaload (e := 100) hC (List.mem_of_getElem? (i := 7) rfl) rfl rfl rfl dX1_loadingHours_9 (?_ : SdS X 10 [(0, 11), (1, 16), (2, 0)] [100, 0] _)
  refine su_iconst hC dX1_loadingHours_10 ⟨by decide, by decide⟩ (?_ : SdS X 11 [(0, 11), (1, 16), (2, 0)] [0, 100, 0] _)
  refine su_iaload hC dX1_loadingHours_11 (?_ : SdS X 12 [(0, 11), (1, 16), (2, 0)] [0, 0] _)
  refine su_invs (τ := []) (τs := [0, 0]) hC true "NarrowRings" WG (M_X8_upwards _) rfl rfl rfl rfl (by decide) wl_3_97 wl_1_1 wl_3_98 hd_X8_upwards (by rw [e3]; decide) (by decide) dX1_loadingHours_12 (?_ : SdS X 15 [(0, 11), (1, 16), (2, 0)] [0] _)
  exact su_ireturn hC hT dX1_loadingHours_15
theorem wl_3_182 : Cond.methodLink RX1 105 yX1_loadingHours ∈ WALL := tb3 (List.mem_of_getElem? (i := 182) rfl) rfl
theorem wl_3_183 : Cond.instanceMethod yX1_loadingHours ∈ WALL := tb3 (List.mem_of_getElem? (i := 183) rfl) rfl
theorem wl_3_184 : Cond.selects RX1 yX1_loadingHours yX1_loadingHours ∈ WALL := tb3 (List.mem_of_getElem? (i := 184) rfl) rfl
theorem wl_3_185 : Cond.code yX1_loadingHours cX1_loadingHours 3 (some .int) ∈ WALL := tb3 (List.mem_of_getElem? (i := 185) rfl) rfl
theorem hd_X1_loadingPay : yX1_loadingPay.cls ≠ "java/lang/invoke/MethodHandle" ∧ yX1_loadingPay.cls ≠ "java/lang/invoke/VarHandle" ∧ (parseMethodDescriptor yX1_loadingPay.desc).map (fun d => d.parameters.length) = some 2 := by decide +kernel
set_option maxRecDepth 100000 in
set_option maxHeartbeats 4000000 in
theorem M_X1_loadingPay (l : Launch) : MtS l yX1_loadingPay (Cond.code yX1_loadingPay cX1_loadingPay 3 (some .int) :: WALL) { frames := 2, cells := 0, slots := 0, locals := 43 } [11, 16, 0] (some 0) T_X1_loadingPay := by
  refine MtS.mk (B := E_X1_loadingPay) (by decide +kernel) (by decide) (fun _ _ _ hh => hh) ?_
  intro X Q e1 e2 e3 hC hN hT
  subst e1
  have hC : CF X cX1_loadingPay RX1 WALL := hC
  refine (?_ : SdS X 0 [(0, 11), (1, 16), (2, 0)] [] (E_X1_loadingPay Q))
  unfold E_X1_loadingPay
  refine su_aload_n hC 11 dX1_loadingPay_0 rfl (by decide) (by decide) (?_ : SdS X 1 [(0, 11), (1, 16), (2, 0)] [11] _)
  refine su_getR hC (ci := 1) (j := 6) (C := RX1) (T := TX1) (N := 12) rfl rfl (by decide) in_X1 wl_1_101 rfl dX1_loadingPay_1 (?_ : SdS X 4 [(0, 11), (1, 16), (2, 0)] [200] _)
  refine su_iload_n hC dX1_loadingPay_4 rfl (by decide) (?_ : SdS X 5 [(0, 11), (1, 16), (2, 0)] [0, 200] _)
  refine su_aaload (e := 100) hC (List.mem_of_getElem? (i := 7) rfl) rfl rfl rfl dX1_loadingPay_5 (?_ : SdS X 6 [(0, 11), (1, 16), (2, 0)] [100] _)
  refine su_iconst hC dX1_loadingPay_6 ⟨by decide, by decide⟩ (?_ : SdS X 7 [(0, 11), (1, 16), (2, 0)] [0, 100] _)
  refine su_iaload hC dX1_loadingPay_7 (?_ : SdS X 8 [(0, 11), (1, 16), (2, 0)] [0] _)
  refine su_aload_n hC 11 dX1_loadingPay_8 rfl (by decide) (by decide) (?_ : SdS X 9 [(0, 11), (1, 16), (2, 0)] [11, 0] _)
  refine su_aload_n hC 16 dX1_loadingPay_9 rfl (by decide) (by decide) (?_ : SdS X 10 [(0, 11), (1, 16), (2, 0)] [16, 11, 0] _)
  refine su_iload_n hC dX1_loadingPay_10 rfl (by decide) (?_ : SdS X 11 [(0, 11), (1, 16), (2, 0)] [0, 16, 11, 0] _)
  refine su_inv0 (τ := [0]) (τr := [16, 0]) (ci := 1) (q := (RX1, TX1, 12)) hC WG (M_X1_loadingHours _) rfl rfl rfl rfl  rfl rfl wl_3_182 wl_3_183 wl_3_184 wl_1_2 wl_3_185 hd_X1_loadingHours (by rw [e3]; decide) (by decide) dX1_loadingPay_11 (?_ : SdS X 14 [(0, 11), (1, 16), (2, 0)] [0, 0] _)
  refine su_aload_n hC 11 dX1_loadingPay_14 rfl (by decide) (by decide) (?_ : SdS X 15 [(0, 11), (1, 16), (2, 0)] [11, 0, 0] _)
  refine su_getR hC (ci := 1) (j := 6) (C := RX1) (T := TX1) (N := 12) rfl rfl (by decide) in_X1 wl_1_101 rfl dX1_loadingPay_15 (?_ : SdS X 18 [(0, 11), (1, 16), (2, 0)] [200, 0, 0] _)
  refine su_iload_n hC dX1_loadingPay_18 rfl (by decide) (?_ : SdS X 19 [(0, 11), (1, 16), (2, 0)] [0, 200, 0, 0] _)
  refine su_aaload (e := 100) hC (List.mem_of_getElem? (i := 7) rfl) rfl rfl rfl dX1_loadingPay_19 (?_ : SdS X 20 [(0, 11), (1, 16), (2, 0)] [100, 0, 0] _)
  refine su_iconst hC dX1_loadingPay_20 ⟨by decide, by decide⟩ (?_ : SdS X 21 [(0, 11), (1, 16), (2, 0)] [0, 100, 0, 0] _)
  refine su_iaload hC dX1_loadingPay_21 (?_ : SdS X 22 [(0, 11), (1, 16), (2, 0)] [0, 0, 0] _)
  refine su_imul hC dX1_loadingPay_22 (?_ : SdS X 23 [(0, 11), (1, 16), (2, 0)] [0, 0] _)
  refine su_iadd hC dX1_loadingPay_23 (?_ : SdS X 24 [(0, 11), (1, 16), (2, 0)] [0] _)
  exact su_ireturn hC hT dX1_loadingPay_24
theorem hd_X1_ringTakes : yX1_ringTakes.cls ≠ "java/lang/invoke/MethodHandle" ∧ yX1_ringTakes.cls ≠ "java/lang/invoke/VarHandle" ∧ (parseMethodDescriptor yX1_ringTakes.desc).map (fun d => d.parameters.length) = some 3 := by decide +kernel
set_option maxRecDepth 100000 in
set_option maxHeartbeats 4000000 in
theorem M_X1_ringTakes (l : Launch) : MtS l yX1_ringTakes (Cond.code yX1_ringTakes cX1_ringTakes 4 (some .boolean) :: WALL) { frames := 0, cells := 0, slots := 0, locals := 0 } [11, 16, 0, 0] (some 0) T_X1_ringTakes := by
  refine MtS.mk (B := E_X1_ringTakes) (by decide +kernel) (by decide) (fun _ _ _ hh => hh) ?_
  intro X Q e1 e2 e3 hC hN hT
  subst e1
  have hC : CF X cX1_ringTakes RX1 WALL := hC
  have S_20 : SdS X 20 [(0, 11), (1, 16), (2, 0), (3, 0)] [0] (B_X1_ringTakes_20 Q) := by
    unfold B_X1_ringTakes_20
    exact su_zreturn hC hT dX1_ringTakes_20
  refine (?_ : SdS X 0 [(0, 11), (1, 16), (2, 0), (3, 0)] [] (E_X1_ringTakes Q))
  unfold E_X1_ringTakes
  refine su_aload_n hC 16 dX1_ringTakes_0 rfl (by decide) (by decide) (?_ : SdS X 1 [(0, 11), (1, 16), (2, 0), (3, 0)] [16] _)
  refine su_getR hC (ci := 6) (j := 1) (C := RX6) (T := TX6) (N := 7) rfl rfl (by decide) in_X6 wl_1_49 rfl dX1_ringTakes_1 (?_ : SdS X 4 [(0, 11), (1, 16), (2, 0), (3, 0)] [100] _)
  refine su_iload_n hC dX1_ringTakes_4 rfl (by decide) (?_ : SdS X 5 [(0, 11), (1, 16), (2, 0), (3, 0)] [0, 100] _)
  refine su_iaload hC dX1_ringTakes_5 (?_ : SdS X 6 [(0, 11), (1, 16), (2, 0), (3, 0)] [0] _)
  refine su_aload_n hC 11 dX1_ringTakes_6 rfl (by decide) (by decide) (?_ : SdS X 7 [(0, 11), (1, 16), (2, 0), (3, 0)] [11, 0] _)
  refine su_getR hC (ci := 1) (j := 5) (C := RX1) (T := TX1) (N := 12) rfl rfl (by decide) in_X1 wl_1_99 rfl dX1_ringTakes_7 (?_ : SdS X 10 [(0, 11), (1, 16), (2, 0), (3, 0)] [100, 0] _)
  refine su_iload_n hC dX1_ringTakes_10 rfl (by decide) (?_ : SdS X 11 [(0, 11), (1, 16), (2, 0), (3, 0)] [0, 100, 0] _)
  refine su_iaload hC dX1_ringTakes_11 (?_ : SdS X 12 [(0, 11), (1, 16), (2, 0), (3, 0)] [0, 0] _)
  refine su_icmp_gt (tgt := 19) hC dX1_ringTakes_12 rfl (?_ : SdS X 19 [(0, 11), (1, 16), (2, 0), (3, 0)] [] _) (?_ : SdS X 15 [(0, 11), (1, 16), (2, 0), (3, 0)] [] _)
  · refine su_iconst hC dX1_ringTakes_19 ⟨by decide, by decide⟩ (?_ : SdS X 20 [(0, 11), (1, 16), (2, 0), (3, 0)] [0] _)
    exact SdS.weak (by decide) (S_20)
  · refine su_iconst hC dX1_ringTakes_15 ⟨by decide, by decide⟩ (?_ : SdS X 16 [(0, 11), (1, 16), (2, 0), (3, 0)] [0] _)
    refine su_goto (tgt := 20) hC dX1_ringTakes_16 rfl (?_ : SdS X 20 [(0, 11), (1, 16), (2, 0), (3, 0)] [0] _)
    exact SdS.weak (by decide) (S_20)
theorem hd_X1_thing : yX1_thing.cls ≠ "java/lang/invoke/MethodHandle" ∧ yX1_thing.cls ≠ "java/lang/invoke/VarHandle" ∧ (parseMethodDescriptor yX1_thing.desc).map (fun d => d.parameters.length) = some 2 := by decide +kernel
set_option maxRecDepth 100000 in
set_option maxHeartbeats 4000000 in
theorem M_X1_thing (l : Launch) : MtS l yX1_thing (Cond.code yX1_thing cX1_thing 3 (some (.object "NarrowRings$Thing")) :: WALL) { frames := 0, cells := 0, slots := 0, locals := 0 } [11, 0, 0] (some 16) T_X1_thing := by
  refine MtS.mk (B := E_X1_thing) (by decide +kernel) (by decide) (fun _ _ _ hh => hh) ?_
  intro X Q e1 e2 e3 hC hN hT
  subst e1
  have hC : CF X cX1_thing RX1 WALL := hC
  have S_19 : SdS X 19 [(0, 11), (1, 0), (2, 0)] [16] (B_X1_thing_19 Q) := by
    unfold B_X1_thing_19
    exact su_areturn hC (by decide) hT dX1_thing_19
  refine (?_ : SdS X 0 [(0, 11), (1, 0), (2, 0)] [] (E_X1_thing Q))
  unfold E_X1_thing
  refine su_iload_n hC dX1_thing_0 rfl (by decide) (?_ : SdS X 1 [(0, 11), (1, 0), (2, 0)] [0] _)
  refine su_if_eq (tgt := 13) hC dX1_thing_1 rfl (?_ : SdS X 13 [(0, 11), (1, 0), (2, 0)] [] _) (?_ : SdS X 4 [(0, 11), (1, 0), (2, 0)] [] _)
  · refine su_aload_n hC 11 dX1_thing_13 rfl (by decide) (by decide) (?_ : SdS X 14 [(0, 11), (1, 0), (2, 0)] [11] _)
    refine su_getR hC (ci := 1) (j := 10) (C := RX1) (T := TX1) (N := 12) rfl rfl (by decide) in_X1 wl_1_116 rfl dX1_thing_14 (?_ : SdS X 17 [(0, 11), (1, 0), (2, 0)] [116] _)
    refine su_iload_n hC dX1_thing_17 rfl (by decide) (?_ : SdS X 18 [(0, 11), (1, 0), (2, 0)] [0, 116] _)
    refine su_aaload (e := 16) hC (List.mem_of_getElem? (i := 5) rfl) rfl rfl rfl dX1_thing_18 (?_ : SdS X 19 [(0, 11), (1, 0), (2, 0)] [16] _)
    exact SdS.weak (by decide) (S_19)
  · refine su_aload_n hC 11 dX1_thing_4 rfl (by decide) (by decide) (?_ : SdS X 5 [(0, 11), (1, 0), (2, 0)] [11] _)
    refine su_getR hC (ci := 1) (j := 11) (C := RX1) (T := TX1) (N := 12) rfl rfl (by decide) in_X1 wl_1_119 rfl dX1_thing_5 (?_ : SdS X 8 [(0, 11), (1, 0), (2, 0)] [116] _)
    refine su_iload_n hC dX1_thing_8 rfl (by decide) (?_ : SdS X 9 [(0, 11), (1, 0), (2, 0)] [0, 116] _)
    refine su_aaload (e := 16) hC (List.mem_of_getElem? (i := 5) rfl) rfl rfl rfl dX1_thing_9 (?_ : SdS X 10 [(0, 11), (1, 0), (2, 0)] [16] _)
    refine su_goto (tgt := 19) hC dX1_thing_10 rfl (?_ : SdS X 19 [(0, 11), (1, 0), (2, 0)] [16] _)
    exact SdS.weak (by decide) (S_19)
theorem wl_2_40 : Cond.fieldLink RX2 21 "NarrowRings$Day" "row" "[[I" ∈ WALL := tb2 (List.mem_of_getElem? (i := 40) rfl) rfl
theorem wl_2_38 : Cond.fieldLink RX2 46 "NarrowRings$Day" "loads" "I" ∈ WALL := tb2 (List.mem_of_getElem? (i := 38) rfl) rfl
theorem wl_2_51 : Cond.fieldLink RX2 9 "NarrowRings$Day" "city" "LNarrowRings$City;" ∈ WALL := tb2 (List.mem_of_getElem? (i := 51) rfl) rfl
theorem wl_1_113 : Cond.fieldLink RX2 69 "NarrowRings$City" "order" "[[I" ∈ WALL := tb1 (List.mem_of_getElem? (i := 113) rfl) rfl
theorem hd_X2_addLoad : yX2_addLoad.cls ≠ "java/lang/invoke/MethodHandle" ∧ yX2_addLoad.cls ≠ "java/lang/invoke/VarHandle" ∧ (parseMethodDescriptor yX2_addLoad.desc).map (fun d => d.parameters.length) = some 1 := by decide +kernel
set_option maxRecDepth 100000 in
set_option maxHeartbeats 4000000 in
theorem M_X2_addLoad (l : Launch) : MtS l yX2_addLoad (Cond.code yX2_addLoad cX2_addLoad 2 none :: WALL) { frames := 0, cells := 0, slots := 0, locals := 0 } [12, 0] none T_X2_addLoad := by
  refine MtS.mk (B := E_X2_addLoad) (by decide +kernel) (by decide) (fun _ _ _ hh => hh) ?_
  intro X Q e1 e2 e3 hC hN hT
  subst e1
  have hC : CF X cX2_addLoad RX2 WALL := hC
  refine (?_ : SdS X 0 [(0, 12), (1, 0)] [] (E_X2_addLoad Q))
  unfold E_X2_addLoad
  refine su_aload_n hC 12 dX2_addLoad_0 rfl (by decide) (by decide) (?_ : SdS X 1 [(0, 12), (1, 0)] [12] _)
  refine su_getR hC (ci := 2) (j := 2) (C := RX2) (T := TX2) (N := 10) rfl rfl (by decide) in_X2 wl_2_40 rfl dX2_addLoad_1 (?_ : SdS X 4 [(0, 12), (1, 0)] [200] _)
  refine su_iconst hC dX2_addLoad_4 ⟨by decide, by decide⟩ (?_ : SdS X 5 [(0, 12), (1, 0)] [0, 200] _)
  refine su_aaload (e := 100) hC (List.mem_of_getElem? (i := 7) rfl) rfl rfl rfl dX2_addLoad_5 (?_ : SdS X 6 [(0, 12), (1, 0)] [100] _)
  refine su_aload_n hC 12 dX2_addLoad_6 rfl (by decide) (by decide) (?_ : SdS X 7 [(0, 12), (1, 0)] [12, 100] _)
  refine su_getF hC (ci := 2) (j := 1) (C := RX2) (T := TX2) (N := 10) rfl rfl (by decide) in_X2 wl_2_38 rfl dX2_addLoad_7 (?_ : SdS X 10 [(0, 12), (1, 0)] [0, 100] _)
  refine su_iload_n hC dX2_addLoad_10 rfl (by decide) (?_ : SdS X 11 [(0, 12), (1, 0)] [0, 0, 100] _)
  refine su_iastore hC dX2_addLoad_11 (?_ : SdS X 12 [(0, 12), (1, 0)] [] _)
  refine su_aload_n hC 12 dX2_addLoad_12 rfl (by decide) (by decide) (?_ : SdS X 13 [(0, 12), (1, 0)] [12] _)
  refine su_getR hC (ci := 2) (j := 2) (C := RX2) (T := TX2) (N := 10) rfl rfl (by decide) in_X2 wl_2_40 rfl dX2_addLoad_13 (?_ : SdS X 16 [(0, 12), (1, 0)] [200] _)
  refine su_iconst hC dX2_addLoad_16 ⟨by decide, by decide⟩ (?_ : SdS X 17 [(0, 12), (1, 0)] [0, 200] _)
  refine su_aaload (e := 100) hC (List.mem_of_getElem? (i := 7) rfl) rfl rfl rfl dX2_addLoad_17 (?_ : SdS X 18 [(0, 12), (1, 0)] [100] _)
  refine su_aload_n hC 12 dX2_addLoad_18 rfl (by decide) (by decide) (?_ : SdS X 19 [(0, 12), (1, 0)] [12, 100] _)
  refine su_getF hC (ci := 2) (j := 1) (C := RX2) (T := TX2) (N := 10) rfl rfl (by decide) in_X2 wl_2_38 rfl dX2_addLoad_19 (?_ : SdS X 22 [(0, 12), (1, 0)] [0, 100] _)
  refine su_aload_n hC 12 dX2_addLoad_22 rfl (by decide) (by decide) (?_ : SdS X 23 [(0, 12), (1, 0)] [12, 0, 100] _)
  refine su_getR hC (ci := 2) (j := 8) (C := RX2) (T := TX2) (N := 10) rfl rfl (by decide) in_X2 wl_2_51 rfl dX2_addLoad_23 (?_ : SdS X 26 [(0, 12), (1, 0)] [11, 0, 100] _)
  refine su_getR hC (ci := 1) (j := 9) (C := RX1) (T := TX1) (N := 12) rfl rfl (by decide) in_X1 wl_1_113 rfl dX2_addLoad_26 (?_ : SdS X 29 [(0, 12), (1, 0)] [200, 0, 100] _)
  refine su_iload_n hC dX2_addLoad_29 rfl (by decide) (?_ : SdS X 30 [(0, 12), (1, 0)] [0, 200, 0, 100] _)
  refine su_aaload (e := 100) hC (List.mem_of_getElem? (i := 7) rfl) rfl rfl rfl dX2_addLoad_30 (?_ : SdS X 31 [(0, 12), (1, 0)] [100, 0, 100] _)
  refine su_iconst hC dX2_addLoad_31 ⟨by decide, by decide⟩ (?_ : SdS X 32 [(0, 12), (1, 0)] [0, 100, 0, 100] _)
  refine su_iaload hC dX2_addLoad_32 (?_ : SdS X 33 [(0, 12), (1, 0)] [0, 0, 100] _)
  refine su_iastore hC dX2_addLoad_33 (?_ : SdS X 34 [(0, 12), (1, 0)] [] _)
  refine su_aload_n hC 12 dX2_addLoad_34 rfl (by decide) (by decide) (?_ : SdS X 35 [(0, 12), (1, 0)] [12] _)
  refine su_getR hC (ci := 2) (j := 2) (C := RX2) (T := TX2) (N := 10) rfl rfl (by decide) in_X2 wl_2_40 rfl dX2_addLoad_35 (?_ : SdS X 38 [(0, 12), (1, 0)] [200] _)
  refine su_iconst hC dX2_addLoad_38 ⟨by decide, by decide⟩ (?_ : SdS X 39 [(0, 12), (1, 0)] [0, 200] _)
  refine su_aaload (e := 100) hC (List.mem_of_getElem? (i := 7) rfl) rfl rfl rfl dX2_addLoad_39 (?_ : SdS X 40 [(0, 12), (1, 0)] [100] _)
  refine su_aload_n hC 12 dX2_addLoad_40 rfl (by decide) (by decide) (?_ : SdS X 41 [(0, 12), (1, 0)] [12, 100] _)
  refine su_getF hC (ci := 2) (j := 1) (C := RX2) (T := TX2) (N := 10) rfl rfl (by decide) in_X2 wl_2_38 rfl dX2_addLoad_41 (?_ : SdS X 44 [(0, 12), (1, 0)] [0, 100] _)
  refine su_aload_n hC 12 dX2_addLoad_44 rfl (by decide) (by decide) (?_ : SdS X 45 [(0, 12), (1, 0)] [12, 0, 100] _)
  refine su_getR hC (ci := 2) (j := 8) (C := RX2) (T := TX2) (N := 10) rfl rfl (by decide) in_X2 wl_2_51 rfl dX2_addLoad_45 (?_ : SdS X 48 [(0, 12), (1, 0)] [11, 0, 100] _)
  refine su_getR hC (ci := 1) (j := 9) (C := RX1) (T := TX1) (N := 12) rfl rfl (by decide) in_X1 wl_1_113 rfl dX2_addLoad_48 (?_ : SdS X 51 [(0, 12), (1, 0)] [200, 0, 100] _)
  refine su_iload_n hC dX2_addLoad_51 rfl (by decide) (?_ : SdS X 52 [(0, 12), (1, 0)] [0, 200, 0, 100] _)
  refine su_aaload (e := 100) hC (List.mem_of_getElem? (i := 7) rfl) rfl rfl rfl dX2_addLoad_52 (?_ : SdS X 53 [(0, 12), (1, 0)] [100, 0, 100] _)
  refine su_iconst hC dX2_addLoad_53 ⟨by decide, by decide⟩ (?_ : SdS X 54 [(0, 12), (1, 0)] [0, 100, 0, 100] _)
  refine su_iaload hC dX2_addLoad_54 (?_ : SdS X 55 [(0, 12), (1, 0)] [0, 0, 100] _)
  refine su_iastore hC dX2_addLoad_55 (?_ : SdS X 56 [(0, 12), (1, 0)] [] _)
  refine su_aload_n hC 12 dX2_addLoad_56 rfl (by decide) (by decide) (?_ : SdS X 57 [(0, 12), (1, 0)] [12] _)
  refine su_getR hC (ci := 2) (j := 2) (C := RX2) (T := TX2) (N := 10) rfl rfl (by decide) in_X2 wl_2_40 rfl dX2_addLoad_57 (?_ : SdS X 60 [(0, 12), (1, 0)] [200] _)
  refine su_iconst hC dX2_addLoad_60 ⟨by decide, by decide⟩ (?_ : SdS X 61 [(0, 12), (1, 0)] [0, 200] _)
  refine su_aaload (e := 100) hC (List.mem_of_getElem? (i := 7) rfl) rfl rfl rfl dX2_addLoad_61 (?_ : SdS X 62 [(0, 12), (1, 0)] [100] _)
  refine su_aload_n hC 12 dX2_addLoad_62 rfl (by decide) (by decide) (?_ : SdS X 63 [(0, 12), (1, 0)] [12, 100] _)
  refine su_getF hC (ci := 2) (j := 1) (C := RX2) (T := TX2) (N := 10) rfl rfl (by decide) in_X2 wl_2_38 rfl dX2_addLoad_63 (?_ : SdS X 66 [(0, 12), (1, 0)] [0, 100] _)
  refine su_iconst hC dX2_addLoad_66 ⟨by decide, by decide⟩ (?_ : SdS X 67 [(0, 12), (1, 0)] [0, 0, 100] _)
  refine su_iastore hC dX2_addLoad_67 (?_ : SdS X 68 [(0, 12), (1, 0)] [] _)
  refine su_aload_n hC 12 dX2_addLoad_68 rfl (by decide) (by decide) (?_ : SdS X 69 [(0, 12), (1, 0)] [12] _)
  refine su_getR hC (ci := 2) (j := 2) (C := RX2) (T := TX2) (N := 10) rfl rfl (by decide) in_X2 wl_2_40 rfl dX2_addLoad_69 (?_ : SdS X 72 [(0, 12), (1, 0)] [200] _)
  refine su_iconst hC dX2_addLoad_72 ⟨by decide, by decide⟩ (?_ : SdS X 73 [(0, 12), (1, 0)] [0, 200] _)
  refine su_aaload (e := 100) hC (List.mem_of_getElem? (i := 7) rfl) rfl rfl rfl dX2_addLoad_73 (?_ : SdS X 74 [(0, 12), (1, 0)] [100] _)
  refine su_aload_n hC 12 dX2_addLoad_74 rfl (by decide) (by decide) (?_ : SdS X 75 [(0, 12), (1, 0)] [12, 100] _)
  refine su_getF hC (ci := 2) (j := 1) (C := RX2) (T := TX2) (N := 10) rfl rfl (by decide) in_X2 wl_2_38 rfl dX2_addLoad_75 (?_ : SdS X 78 [(0, 12), (1, 0)] [0, 100] _)
  refine su_iconst hC dX2_addLoad_78 ⟨by decide, by decide⟩ (?_ : SdS X 79 [(0, 12), (1, 0)] [0, 0, 100] _)
  refine su_iastore hC dX2_addLoad_79 (?_ : SdS X 80 [(0, 12), (1, 0)] [] _)
  refine su_aload_n hC 12 dX2_addLoad_80 rfl (by decide) (by decide) (?_ : SdS X 81 [(0, 12), (1, 0)] [12] _)
  refine su_getR hC (ci := 2) (j := 2) (C := RX2) (T := TX2) (N := 10) rfl rfl (by decide) in_X2 wl_2_40 rfl dX2_addLoad_81 (?_ : SdS X 84 [(0, 12), (1, 0)] [200] _)
  refine su_iconst hC dX2_addLoad_84 ⟨by decide, by decide⟩ (?_ : SdS X 85 [(0, 12), (1, 0)] [0, 200] _)
  refine su_aaload (e := 100) hC (List.mem_of_getElem? (i := 7) rfl) rfl rfl rfl dX2_addLoad_85 (?_ : SdS X 86 [(0, 12), (1, 0)] [100] _)
  refine su_aload_n hC 12 dX2_addLoad_86 rfl (by decide) (by decide) (?_ : SdS X 87 [(0, 12), (1, 0)] [12, 100] _)
  refine su_getF hC (ci := 2) (j := 1) (C := RX2) (T := TX2) (N := 10) rfl rfl (by decide) in_X2 wl_2_38 rfl dX2_addLoad_87 (?_ : SdS X 90 [(0, 12), (1, 0)] [0, 100] _)
  refine su_iconst hC dX2_addLoad_90 ⟨by decide, by decide⟩ (?_ : SdS X 91 [(0, 12), (1, 0)] [0, 0, 100] _)
  refine su_iastore hC dX2_addLoad_91 (?_ : SdS X 92 [(0, 12), (1, 0)] [] _)
  refine su_aload_n hC 12 dX2_addLoad_92 rfl (by decide) (by decide) (?_ : SdS X 93 [(0, 12), (1, 0)] [12] _)
  refine su_getR hC (ci := 2) (j := 2) (C := RX2) (T := TX2) (N := 10) rfl rfl (by decide) in_X2 wl_2_40 rfl dX2_addLoad_93 (?_ : SdS X 96 [(0, 12), (1, 0)] [200] _)
  refine su_bipush hC dX2_addLoad_96 (by decide) (?_ : SdS X 98 [(0, 12), (1, 0)] [0, 200] _)
  refine su_aaload (e := 100) hC (List.mem_of_getElem? (i := 7) rfl) rfl rfl rfl dX2_addLoad_98 (?_ : SdS X 99 [(0, 12), (1, 0)] [100] _)
  refine su_aload_n hC 12 dX2_addLoad_99 rfl (by decide) (by decide) (?_ : SdS X 100 [(0, 12), (1, 0)] [12, 100] _)
  refine su_getF hC (ci := 2) (j := 1) (C := RX2) (T := TX2) (N := 10) rfl rfl (by decide) in_X2 wl_2_38 rfl dX2_addLoad_100 (?_ : SdS X 103 [(0, 12), (1, 0)] [0, 100] _)
  refine su_bipush hC dX2_addLoad_103 (by decide) (?_ : SdS X 105 [(0, 12), (1, 0)] [0, 0, 100] _)
  refine su_iastore hC dX2_addLoad_105 (?_ : SdS X 106 [(0, 12), (1, 0)] [] _)
  refine su_aload_n hC 12 dX2_addLoad_106 rfl (by decide) (by decide) (?_ : SdS X 107 [(0, 12), (1, 0)] [12] _)
  refine su_getR hC (ci := 2) (j := 2) (C := RX2) (T := TX2) (N := 10) rfl rfl (by decide) in_X2 wl_2_40 rfl dX2_addLoad_107 (?_ : SdS X 110 [(0, 12), (1, 0)] [200] _)
  refine su_bipush hC dX2_addLoad_110 (by decide) (?_ : SdS X 112 [(0, 12), (1, 0)] [0, 200] _)
  refine su_aaload (e := 100) hC (List.mem_of_getElem? (i := 7) rfl) rfl rfl rfl dX2_addLoad_112 (?_ : SdS X 113 [(0, 12), (1, 0)] [100] _)
  refine su_aload_n hC 12 dX2_addLoad_113 rfl (by decide) (by decide) (?_ : SdS X 114 [(0, 12), (1, 0)] [12, 100] _)
  refine su_getF hC (ci := 2) (j := 1) (C := RX2) (T := TX2) (N := 10) rfl rfl (by decide) in_X2 wl_2_38 rfl dX2_addLoad_114 (?_ : SdS X 117 [(0, 12), (1, 0)] [0, 100] _)
  refine su_bipush hC dX2_addLoad_117 (by decide) (?_ : SdS X 119 [(0, 12), (1, 0)] [0, 0, 100] _)
  refine su_iastore hC dX2_addLoad_119 (?_ : SdS X 120 [(0, 12), (1, 0)] [] _)
  refine su_aload_n hC 12 dX2_addLoad_120 rfl (by decide) (by decide) (?_ : SdS X 121 [(0, 12), (1, 0)] [12] _)
  refine su_getR hC (ci := 2) (j := 2) (C := RX2) (T := TX2) (N := 10) rfl rfl (by decide) in_X2 wl_2_40 rfl dX2_addLoad_121 (?_ : SdS X 124 [(0, 12), (1, 0)] [200] _)
  refine su_bipush hC dX2_addLoad_124 (by decide) (?_ : SdS X 126 [(0, 12), (1, 0)] [0, 200] _)
  refine su_aaload (e := 100) hC (List.mem_of_getElem? (i := 7) rfl) rfl rfl rfl dX2_addLoad_126 (?_ : SdS X 127 [(0, 12), (1, 0)] [100] _)
  refine su_aload_n hC 12 dX2_addLoad_127 rfl (by decide) (by decide) (?_ : SdS X 128 [(0, 12), (1, 0)] [12, 100] _)
  refine su_getF hC (ci := 2) (j := 1) (C := RX2) (T := TX2) (N := 10) rfl rfl (by decide) in_X2 wl_2_38 rfl dX2_addLoad_128 (?_ : SdS X 131 [(0, 12), (1, 0)] [0, 100] _)
  refine su_iconst hC dX2_addLoad_131 ⟨by decide, by decide⟩ (?_ : SdS X 132 [(0, 12), (1, 0)] [0, 0, 100] _)
  refine su_iastore hC dX2_addLoad_132 (?_ : SdS X 133 [(0, 12), (1, 0)] [] _)
  refine su_aload_n hC 12 dX2_addLoad_133 rfl (by decide) (by decide) (?_ : SdS X 134 [(0, 12), (1, 0)] [12] _)
  refine su_getR hC (ci := 2) (j := 2) (C := RX2) (T := TX2) (N := 10) rfl rfl (by decide) in_X2 wl_2_40 rfl dX2_addLoad_134 (?_ : SdS X 137 [(0, 12), (1, 0)] [200] _)
  refine su_bipush hC dX2_addLoad_137 (by decide) (?_ : SdS X 139 [(0, 12), (1, 0)] [0, 200] _)
  refine su_aaload (e := 100) hC (List.mem_of_getElem? (i := 7) rfl) rfl rfl rfl dX2_addLoad_139 (?_ : SdS X 140 [(0, 12), (1, 0)] [100] _)
  refine su_aload_n hC 12 dX2_addLoad_140 rfl (by decide) (by decide) (?_ : SdS X 141 [(0, 12), (1, 0)] [12, 100] _)
  refine su_getF hC (ci := 2) (j := 1) (C := RX2) (T := TX2) (N := 10) rfl rfl (by decide) in_X2 wl_2_38 rfl dX2_addLoad_141 (?_ : SdS X 144 [(0, 12), (1, 0)] [0, 100] _)
  refine su_iconst hC dX2_addLoad_144 ⟨by decide, by decide⟩ (?_ : SdS X 145 [(0, 12), (1, 0)] [0, 0, 100] _)
  refine su_iastore hC dX2_addLoad_145 (?_ : SdS X 146 [(0, 12), (1, 0)] [] _)
  refine su_aload_n hC 12 dX2_addLoad_146 rfl (by decide) (by decide) (?_ : SdS X 147 [(0, 12), (1, 0)] [12] _)
  refine su_dup hC (by decide) dX2_addLoad_147 (?_ : SdS X 148 [(0, 12), (1, 0)] [12, 12] _)
  refine su_getF hC (ci := 2) (j := 1) (C := RX2) (T := TX2) (N := 10) rfl rfl (by decide) in_X2 wl_2_38 rfl dX2_addLoad_148 (?_ : SdS X 151 [(0, 12), (1, 0)] [0, 12] _)
  refine su_iconst hC dX2_addLoad_151 ⟨by decide, by decide⟩ (?_ : SdS X 152 [(0, 12), (1, 0)] [0, 0, 12] _)
  refine su_iadd hC dX2_addLoad_152 (?_ : SdS X 153 [(0, 12), (1, 0)] [0, 12] _)
  refine su_putF hC (ci := 2) (j := 1) (C := RX2) (T := TX2) (N := 10) tyX2 tyX2_ok nmX2 rfl rfl (by decide) in_X2 rfl rfl wl_2_38 rfl dX2_addLoad_153 (?_ : SdS X 156 [(0, 12), (1, 0)] [] _)
  exact su_return hC hT dX2_addLoad_156
theorem wl_2_52 : Cond.fieldLink RX2 15 "NarrowRings$Day" "ways" "[LNarrowRings$Way;" ∈ WALL := tb2 (List.mem_of_getElem? (i := 52) rfl) rfl
theorem wl_2_8 : Cond.fieldLink RX2 94 "NarrowRings$Way" "gates" "I" ∈ WALL := tb2 (List.mem_of_getElem? (i := 8) rfl) rfl
theorem wl_2_12 : Cond.fieldLink RX2 97 "NarrowRings$Way" "gate" "[I" ∈ WALL := tb2 (List.mem_of_getElem? (i := 12) rfl) rfl
theorem hd_X2_gateAhead : yX2_gateAhead.cls ≠ "java/lang/invoke/MethodHandle" ∧ yX2_gateAhead.cls ≠ "java/lang/invoke/VarHandle" ∧ (parseMethodDescriptor yX2_gateAhead.desc).map (fun d => d.parameters.length) = some 1 := by decide +kernel
set_option maxRecDepth 100000 in
set_option maxHeartbeats 4000000 in
theorem M_X2_gateAhead (l : Launch) : MtS l yX2_gateAhead (Cond.code yX2_gateAhead cX2_gateAhead 4 (some .int) :: WALL) { frames := 0, cells := 0, slots := 0, locals := 0 } [12, 0] (some 0) T_X2_gateAhead := by
  refine MtS.mk (B := E_X2_gateAhead) (by decide +kernel) (by decide) (fun _ _ _ hh => hh) ?_
  intro X Q e1 e2 e3 hC hN hT
  subst e1
  have hC : CF X cX2_gateAhead RX2 WALL := hC
  have S_42 : SdS X 42 [(0, 12), (1, 0), (2, 17), (3, 0)] [0] (B_X2_gateAhead_42 Q) := by
    unfold B_X2_gateAhead_42
    exact su_ireturn hC hT dX2_gateAhead_42
  refine (?_ : SdS X 0 [(0, 12), (1, 0)] [] (E_X2_gateAhead Q))
  unfold E_X2_gateAhead
  refine su_aload_n hC 12 dX2_gateAhead_0 rfl (by decide) (by decide) (?_ : SdS X 1 [(0, 12), (1, 0)] [12] _)
  refine su_getR hC (ci := 2) (j := 9) (C := RX2) (T := TX2) (N := 10) rfl rfl (by decide) in_X2 wl_2_52 rfl dX2_gateAhead_1 (?_ : SdS X 4 [(0, 12), (1, 0)] [117] _)
  refine su_aload_n hC 12 dX2_gateAhead_4 rfl (by decide) (by decide) (?_ : SdS X 5 [(0, 12), (1, 0)] [12, 117] _)
  refine su_getR hC (ci := 2) (j := 2) (C := RX2) (T := TX2) (N := 10) rfl rfl (by decide) in_X2 wl_2_40 rfl dX2_gateAhead_5 (?_ : SdS X 8 [(0, 12), (1, 0)] [200, 117] _)
  refine su_iconst hC dX2_gateAhead_8 ⟨by decide, by decide⟩ (?_ : SdS X 9 [(0, 12), (1, 0)] [0, 200, 117] _)
  refine su_aaload (e := 100) hC (List.mem_of_getElem? (i := 7) rfl) rfl rfl rfl dX2_gateAhead_9 (?_ : SdS X 10 [(0, 12), (1, 0)] [100, 117] _)
  refine su_iload_n hC dX2_gateAhead_10 rfl (by decide) (?_ : SdS X 11 [(0, 12), (1, 0)] [0, 100, 117] _)
  refine su_iaload hC dX2_gateAhead_11 (?_ : SdS X 12 [(0, 12), (1, 0)] [0, 117] _)
  refine su_aaload (e := 17) hC (List.mem_of_getElem? (i := 6) rfl) rfl rfl rfl dX2_gateAhead_12 (?_ : SdS X 13 [(0, 12), (1, 0)] [17] _)
  refine su_astore_n (Γ' := [(0, 12), (1, 0), (2, 17)]) hC dX2_gateAhead_13 rfl (by decide) (by rw [e2]; decide) (by decide) (?_ : SdS X 14 [(0, 12), (1, 0), (2, 17)] [] _)
  refine su_aload_n hC 12 dX2_gateAhead_14 rfl (by decide) (by decide) (?_ : SdS X 15 [(0, 12), (1, 0), (2, 17)] [12] _)
  refine su_getR hC (ci := 2) (j := 2) (C := RX2) (T := TX2) (N := 10) rfl rfl (by decide) in_X2 wl_2_40 rfl dX2_gateAhead_15 (?_ : SdS X 18 [(0, 12), (1, 0), (2, 17)] [200] _)
  refine su_bipush hC dX2_gateAhead_18 (by decide) (?_ : SdS X 20 [(0, 12), (1, 0), (2, 17)] [0, 200] _)
  refine su_aaload (e := 100) hC (List.mem_of_getElem? (i := 7) rfl) rfl rfl rfl dX2_gateAhead_20 (?_ : SdS X 21 [(0, 12), (1, 0), (2, 17)] [100] _)
  refine su_iload_n hC dX2_gateAhead_21 rfl (by decide) (?_ : SdS X 22 [(0, 12), (1, 0), (2, 17)] [0, 100] _)
  refine su_iaload hC dX2_gateAhead_22 (?_ : SdS X 23 [(0, 12), (1, 0), (2, 17)] [0] _)
  refine su_istore_n (Γ' := [(0, 12), (1, 0), (2, 17), (3, 0)]) hC dX2_gateAhead_23 rfl (by rw [e2]; decide) (by decide) (?_ : SdS X 24 [(0, 12), (1, 0), (2, 17), (3, 0)] [] _)
  refine su_iload_n hC dX2_gateAhead_24 rfl (by decide) (?_ : SdS X 25 [(0, 12), (1, 0), (2, 17), (3, 0)] [0] _)
  refine su_aload_n hC 17 dX2_gateAhead_25 rfl (by decide) (by decide) (?_ : SdS X 26 [(0, 12), (1, 0), (2, 17), (3, 0)] [17, 0] _)
  refine su_getF hC (ci := 7) (j := 5) (C := RX7) (T := TX7) (N := 7) rfl rfl (by decide) in_X7 wl_2_8 rfl dX2_gateAhead_26 (?_ : SdS X 29 [(0, 12), (1, 0), (2, 17), (3, 0)] [0, 0] _)
  refine su_icmp_ge (tgt := 41) hC dX2_gateAhead_29 rfl (?_ : SdS X 41 [(0, 12), (1, 0), (2, 17), (3, 0)] [] _) (?_ : SdS X 32 [(0, 12), (1, 0), (2, 17), (3, 0)] [] _)
  · refine su_iconst hC dX2_gateAhead_41 ⟨by decide, by decide⟩ (?_ : SdS X 42 [(0, 12), (1, 0), (2, 17), (3, 0)] [0] _)
    exact SdS.weak (by decide) (S_42)
  · refine su_aload_n hC 17 dX2_gateAhead_32 rfl (by decide) (by decide) (?_ : SdS X 33 [(0, 12), (1, 0), (2, 17), (3, 0)] [17] _)
    refine su_getR hC (ci := 7) (j := 6) (C := RX7) (T := TX7) (N := 7) rfl rfl (by decide) in_X7 wl_2_12 rfl dX2_gateAhead_33 (?_ : SdS X 36 [(0, 12), (1, 0), (2, 17), (3, 0)] [100] _)
    refine su_iload_n hC dX2_gateAhead_36 rfl (by decide) (?_ : SdS X 37 [(0, 12), (1, 0), (2, 17), (3, 0)] [0, 100] _)
    refine su_iaload hC dX2_gateAhead_37 (?_ : SdS X 38 [(0, 12), (1, 0), (2, 17), (3, 0)] [0] _)
    refine su_goto (tgt := 42) hC dX2_gateAhead_38 rfl (?_ : SdS X 42 [(0, 12), (1, 0), (2, 17), (3, 0)] [0] _)
    exact SdS.weak (by decide) (S_42)
theorem wl_4_127 : Cond.methodLink RX2 100 yX2_gateAhead ∈ WALL := tb4 (List.mem_of_getElem? (i := 127) rfl) rfl
theorem wl_4_129 : Cond.instanceMethod yX2_gateAhead ∈ WALL := tb4 (List.mem_of_getElem? (i := 129) rfl) rfl
theorem wp_48 : Cond.selects RX2 yX2_gateAhead yX2_gateAhead ∈ WALL := tbS (List.mem_of_getElem? (i := 48) rfl)
theorem wl_1_7 : Cond.initialized RX2 ∈ WALL := tb1 (List.mem_of_getElem? (i := 7) rfl) rfl
theorem wl_4_130 : Cond.code yX2_gateAhead cX2_gateAhead 4 (some .int) ∈ WALL := tb4 (List.mem_of_getElem? (i := 130) rfl) rfl
theorem wl_1_106 : Cond.fieldLink RX2 104 "NarrowRings$City" "gate" "[[I" ∈ WALL := tb1 (List.mem_of_getElem? (i := 106) rfl) rfl
theorem hd_X2_placeAhead : yX2_placeAhead.cls ≠ "java/lang/invoke/MethodHandle" ∧ yX2_placeAhead.cls ≠ "java/lang/invoke/VarHandle" ∧ (parseMethodDescriptor yX2_placeAhead.desc).map (fun d => d.parameters.length) = some 1 := by decide +kernel
set_option maxRecDepth 100000 in
set_option maxHeartbeats 4000000 in
theorem M_X2_placeAhead (l : Launch) : MtS l yX2_placeAhead (Cond.code yX2_placeAhead cX2_placeAhead 3 (some .int) :: WALL) { frames := 1, cells := 0, slots := 0, locals := 23 } [12, 0] (some 0) T_X2_placeAhead := by
  refine MtS.mk (B := E_X2_placeAhead) (by decide +kernel) (by decide) (fun _ _ _ hh => hh) ?_
  intro X Q e1 e2 e3 hC hN hT
  subst e1
  have hC : CF X cX2_placeAhead RX2 WALL := hC
  have S_43 : SdS X 43 [(0, 12), (1, 0), (2, 0)] [0] (B_X2_placeAhead_43 Q) := by
    unfold B_X2_placeAhead_43
    exact su_ireturn hC hT dX2_placeAhead_43
  refine (?_ : SdS X 0 [(0, 12), (1, 0)] [] (E_X2_placeAhead Q))
  unfold E_X2_placeAhead
  refine su_aload_n hC 12 dX2_placeAhead_0 rfl (by decide) (by decide) (?_ : SdS X 1 [(0, 12), (1, 0)] [12] _)
  refine su_iload_n hC dX2_placeAhead_1 rfl (by decide) (?_ : SdS X 2 [(0, 12), (1, 0)] [0, 12] _)
  refine su_inv0 (τ := []) (τr := [0]) (ci := 2) (q := (RX2, TX2, 10)) hC WG (M_X2_gateAhead _) rfl rfl rfl rfl  rfl rfl wl_4_127 wl_4_129 wp_48 wl_1_7 wl_4_130 hd_X2_gateAhead (by rw [e3]; decide) (by decide) dX2_placeAhead_2 (?_ : SdS X 5 [(0, 12), (1, 0)] [0] _)
  refine su_istore_n (Γ' := [(0, 12), (1, 0), (2, 0)]) hC dX2_placeAhead_5 rfl (by rw [e2]; decide) (by decide) (?_ : SdS X 6 [(0, 12), (1, 0), (2, 0)] [] _)
  refine su_iload_n hC dX2_placeAhead_6 rfl (by decide) (?_ : SdS X 7 [(0, 12), (1, 0), (2, 0)] [0] _)
  refine su_iconst hC dX2_placeAhead_7 ⟨by decide, by decide⟩ (?_ : SdS X 8 [(0, 12), (1, 0), (2, 0)] [0, 0] _)
  refine su_icmp_ne (tgt := 32) hC dX2_placeAhead_8 rfl (?_ : SdS X 32 [(0, 12), (1, 0), (2, 0)] [] _) (?_ : SdS X 11 [(0, 12), (1, 0), (2, 0)] [] _)
  · refine su_aload_n hC 12 dX2_placeAhead_32 rfl (by decide) (by decide) (?_ : SdS X 33 [(0, 12), (1, 0), (2, 0)] [12] _)
    refine su_getR hC (ci := 2) (j := 8) (C := RX2) (T := TX2) (N := 10) rfl rfl (by decide) in_X2 wl_2_51 rfl dX2_placeAhead_33 (?_ : SdS X 36 [(0, 12), (1, 0), (2, 0)] [11] _)
    refine su_getR hC (ci := 1) (j := 6) (C := RX1) (T := TX1) (N := 12) rfl rfl (by decide) in_X1 wl_1_106 rfl dX2_placeAhead_36 (?_ : SdS X 39 [(0, 12), (1, 0), (2, 0)] [200] _)
    refine su_iload_n hC dX2_placeAhead_39 rfl (by decide) (?_ : SdS X 40 [(0, 12), (1, 0), (2, 0)] [0, 200] _)
    refine su_aaload (e := 100) hC (List.mem_of_getElem? (i := 7) rfl) rfl rfl rfl dX2_placeAhead_40 (?_ : SdS X 41 [(0, 12), (1, 0), (2, 0)] [100] _)
    refine su_iconst hC dX2_placeAhead_41 ⟨by decide, by decide⟩ (?_ : SdS X 42 [(0, 12), (1, 0), (2, 0)] [0, 100] _)
    refine su_iaload hC dX2_placeAhead_42 (?_ : SdS X 43 [(0, 12), (1, 0), (2, 0)] [0] _)
    exact SdS.weak (by decide) (S_43)
  · refine su_aload_n hC 12 dX2_placeAhead_11 rfl (by decide) (by decide) (?_ : SdS X 12 [(0, 12), (1, 0), (2, 0)] [12] _)
    refine su_getR hC (ci := 2) (j := 8) (C := RX2) (T := TX2) (N := 10) rfl rfl (by decide) in_X2 wl_2_51 rfl dX2_placeAhead_12 (?_ : SdS X 15 [(0, 12), (1, 0), (2, 0)] [11] _)
    refine su_getR hC (ci := 1) (j := 9) (C := RX1) (T := TX1) (N := 12) rfl rfl (by decide) in_X1 wl_1_113 rfl dX2_placeAhead_15 (?_ : SdS X 18 [(0, 12), (1, 0), (2, 0)] [200] _)
    refine su_aload_n hC 12 dX2_placeAhead_18 rfl (by decide) (by decide) (?_ : SdS X 19 [(0, 12), (1, 0), (2, 0)] [12, 200] _)
    refine su_getR hC (ci := 2) (j := 2) (C := RX2) (T := TX2) (N := 10) rfl rfl (by decide) in_X2 wl_2_40 rfl dX2_placeAhead_19 (?_ : SdS X 22 [(0, 12), (1, 0), (2, 0)] [200, 200] _)
    refine su_iconst hC dX2_placeAhead_22 ⟨by decide, by decide⟩ (?_ : SdS X 23 [(0, 12), (1, 0), (2, 0)] [0, 200, 200] _)
    refine su_aaload (e := 100) hC (List.mem_of_getElem? (i := 7) rfl) rfl rfl rfl dX2_placeAhead_23 (?_ : SdS X 24 [(0, 12), (1, 0), (2, 0)] [100, 200] _)
    refine su_iload_n hC dX2_placeAhead_24 rfl (by decide) (?_ : SdS X 25 [(0, 12), (1, 0), (2, 0)] [0, 100, 200] _)
    refine su_iaload hC dX2_placeAhead_25 (?_ : SdS X 26 [(0, 12), (1, 0), (2, 0)] [0, 200] _)
    refine su_aaload (e := 100) hC (List.mem_of_getElem? (i := 7) rfl) rfl rfl rfl dX2_placeAhead_26 (?_ : SdS X 27 [(0, 12), (1, 0), (2, 0)] [100] _)
    refine su_iconst hC dX2_placeAhead_27 ⟨by decide, by decide⟩ (?_ : SdS X 28 [(0, 12), (1, 0), (2, 0)] [0, 100] _)
    refine su_iaload hC dX2_placeAhead_28 (?_ : SdS X 29 [(0, 12), (1, 0), (2, 0)] [0] _)
    refine su_goto (tgt := 43) hC dX2_placeAhead_29 rfl (?_ : SdS X 43 [(0, 12), (1, 0), (2, 0)] [0] _)
    exact SdS.weak (by decide) (S_43)
theorem wl_2_36 : Cond.fieldLink RX2 42 "NarrowRings$Day" "hour" "I" ∈ WALL := tb2 (List.mem_of_getElem? (i := 36) rfl) rfl
theorem hd_X2_arrive : yX2_arrive.cls ≠ "java/lang/invoke/MethodHandle" ∧ yX2_arrive.cls ≠ "java/lang/invoke/VarHandle" ∧ (parseMethodDescriptor yX2_arrive.desc).map (fun d => d.parameters.length) = some 1 := by decide +kernel
set_option maxRecDepth 100000 in
set_option maxHeartbeats 4000000 in
theorem M_X2_arrive (l : Launch) : MtS l yX2_arrive (Cond.code yX2_arrive cX2_arrive 2 none :: WALL) { frames := 1, cells := 0, slots := 0, locals := 23 } [12, 0] none T_X2_arrive := by
  refine MtS.mk (B := E_X2_arrive) (by decide +kernel) (by decide) (fun _ _ _ hh => hh) ?_
  intro X Q e1 e2 e3 hC hN hT
  subst e1
  have hC : CF X cX2_arrive RX2 WALL := hC
  have S_56 : SdS X 56 [(0, 12), (1, 0)] [] (B_X2_arrive_56 Q) := by
    unfold B_X2_arrive_56
    exact su_return hC hT dX2_arrive_56
  refine (?_ : SdS X 0 [(0, 12), (1, 0)] [] (E_X2_arrive Q))
  unfold E_X2_arrive
  refine su_aload_n hC 12 dX2_arrive_0 rfl (by decide) (by decide) (?_ : SdS X 1 [(0, 12), (1, 0)] [12] _)
  refine su_iload_n hC dX2_arrive_1 rfl (by decide) (?_ : SdS X 2 [(0, 12), (1, 0)] [0, 12] _)
  refine su_inv0 (τ := []) (τr := [0]) (ci := 2) (q := (RX2, TX2, 10)) hC WG (M_X2_gateAhead _) rfl rfl rfl rfl  rfl rfl wl_4_127 wl_4_129 wp_48 wl_1_7 wl_4_130 hd_X2_gateAhead (by rw [e3]; decide) (by decide) dX2_arrive_2 (?_ : SdS X 5 [(0, 12), (1, 0)] [0] _)
  refine su_iconst hC dX2_arrive_5 ⟨by decide, by decide⟩ (?_ : SdS X 6 [(0, 12), (1, 0)] [0, 0] _)
  refine su_icmp_ne (tgt := 34) hC dX2_arrive_6 rfl (?_ : SdS X 34 [(0, 12), (1, 0)] [] _) (?_ : SdS X 9 [(0, 12), (1, 0)] [] _)
  · refine su_aload_n hC 12 dX2_arrive_34 rfl (by decide) (by decide) (?_ : SdS X 35 [(0, 12), (1, 0)] [12] _)
    refine su_getR hC (ci := 2) (j := 2) (C := RX2) (T := TX2) (N := 10) rfl rfl (by decide) in_X2 wl_2_40 rfl dX2_arrive_35 (?_ : SdS X 38 [(0, 12), (1, 0)] [200] _)
    refine su_iconst hC dX2_arrive_38 ⟨by decide, by decide⟩ (?_ : SdS X 39 [(0, 12), (1, 0)] [0, 200] _)
    refine su_aaload (e := 100) hC (List.mem_of_getElem? (i := 7) rfl) rfl rfl rfl dX2_arrive_39 (?_ : SdS X 40 [(0, 12), (1, 0)] [100] _)
    refine su_iload_n hC dX2_arrive_40 rfl (by decide) (?_ : SdS X 41 [(0, 12), (1, 0)] [0, 100] _)
    refine su_iconst hC dX2_arrive_41 ⟨by decide, by decide⟩ (?_ : SdS X 42 [(0, 12), (1, 0)] [0, 0, 100] _)
    refine su_iastore hC dX2_arrive_42 (?_ : SdS X 43 [(0, 12), (1, 0)] [] _)
    refine su_aload_n hC 12 dX2_arrive_43 rfl (by decide) (by decide) (?_ : SdS X 44 [(0, 12), (1, 0)] [12] _)
    refine su_getR hC (ci := 2) (j := 2) (C := RX2) (T := TX2) (N := 10) rfl rfl (by decide) in_X2 wl_2_40 rfl dX2_arrive_44 (?_ : SdS X 47 [(0, 12), (1, 0)] [200] _)
    refine su_bipush hC dX2_arrive_47 (by decide) (?_ : SdS X 49 [(0, 12), (1, 0)] [0, 200] _)
    refine su_aaload (e := 100) hC (List.mem_of_getElem? (i := 7) rfl) rfl rfl rfl dX2_arrive_49 (?_ : SdS X 50 [(0, 12), (1, 0)] [100] _)
    refine su_iload_n hC dX2_arrive_50 rfl (by decide) (?_ : SdS X 51 [(0, 12), (1, 0)] [0, 100] _)
    refine su_aload_n hC 12 dX2_arrive_51 rfl (by decide) (by decide) (?_ : SdS X 52 [(0, 12), (1, 0)] [12, 0, 100] _)
    refine su_getF hC (ci := 2) (j := 0) (C := RX2) (T := TX2) (N := 10) rfl rfl (by decide) in_X2 wl_2_36 rfl dX2_arrive_52 (?_ : SdS X 55 [(0, 12), (1, 0)] [0, 0, 100] _)
    refine su_iastore hC dX2_arrive_55 (?_ : SdS X 56 [(0, 12), (1, 0)] [] _)
    exact SdS.weak (by decide) (S_56)
  · refine su_aload_n hC 12 dX2_arrive_9 rfl (by decide) (by decide) (?_ : SdS X 10 [(0, 12), (1, 0)] [12] _)
    refine su_getR hC (ci := 2) (j := 2) (C := RX2) (T := TX2) (N := 10) rfl rfl (by decide) in_X2 wl_2_40 rfl dX2_arrive_10 (?_ : SdS X 13 [(0, 12), (1, 0)] [200] _)
    refine su_iconst hC dX2_arrive_13 ⟨by decide, by decide⟩ (?_ : SdS X 14 [(0, 12), (1, 0)] [0, 200] _)
    refine su_aaload (e := 100) hC (List.mem_of_getElem? (i := 7) rfl) rfl rfl rfl dX2_arrive_14 (?_ : SdS X 15 [(0, 12), (1, 0)] [100] _)
    refine su_iload_n hC dX2_arrive_15 rfl (by decide) (?_ : SdS X 16 [(0, 12), (1, 0)] [0, 100] _)
    refine su_iconst hC dX2_arrive_16 ⟨by decide, by decide⟩ (?_ : SdS X 17 [(0, 12), (1, 0)] [0, 0, 100] _)
    refine su_iastore hC dX2_arrive_17 (?_ : SdS X 18 [(0, 12), (1, 0)] [] _)
    refine su_aload_n hC 12 dX2_arrive_18 rfl (by decide) (by decide) (?_ : SdS X 19 [(0, 12), (1, 0)] [12] _)
    refine su_getR hC (ci := 2) (j := 2) (C := RX2) (T := TX2) (N := 10) rfl rfl (by decide) in_X2 wl_2_40 rfl dX2_arrive_19 (?_ : SdS X 22 [(0, 12), (1, 0)] [200] _)
    refine su_bipush hC dX2_arrive_22 (by decide) (?_ : SdS X 24 [(0, 12), (1, 0)] [0, 200] _)
    refine su_aaload (e := 100) hC (List.mem_of_getElem? (i := 7) rfl) rfl rfl rfl dX2_arrive_24 (?_ : SdS X 25 [(0, 12), (1, 0)] [100] _)
    refine su_iload_n hC dX2_arrive_25 rfl (by decide) (?_ : SdS X 26 [(0, 12), (1, 0)] [0, 100] _)
    refine su_aload_n hC 12 dX2_arrive_26 rfl (by decide) (by decide) (?_ : SdS X 27 [(0, 12), (1, 0)] [12, 0, 100] _)
    refine su_getF hC (ci := 2) (j := 0) (C := RX2) (T := TX2) (N := 10) rfl rfl (by decide) in_X2 wl_2_36 rfl dX2_arrive_27 (?_ : SdS X 30 [(0, 12), (1, 0)] [0, 0, 100] _)
    refine su_iastore hC dX2_arrive_30 (?_ : SdS X 31 [(0, 12), (1, 0)] [] _)
    refine su_goto (tgt := 56) hC dX2_arrive_31 rfl (?_ : SdS X 56 [(0, 12), (1, 0)] [] _)
    exact SdS.weak (by decide) (S_56)
theorem wl_4_123 : Cond.methodLink RX2 112 yX2_placeAhead ∈ WALL := tb4 (List.mem_of_getElem? (i := 123) rfl) rfl
theorem wl_4_125 : Cond.instanceMethod yX2_placeAhead ∈ WALL := tb4 (List.mem_of_getElem? (i := 125) rfl) rfl
theorem wp_47 : Cond.selects RX2 yX2_placeAhead yX2_placeAhead ∈ WALL := tbS (List.mem_of_getElem? (i := 47) rfl)
theorem wl_4_126 : Cond.code yX2_placeAhead cX2_placeAhead 3 (some .int) ∈ WALL := tb4 (List.mem_of_getElem? (i := 126) rfl) rfl
theorem wl_4_131 : Cond.methodLink RX2 115 yX2_arrive ∈ WALL := tb4 (List.mem_of_getElem? (i := 131) rfl) rfl
theorem wl_4_133 : Cond.instanceMethod yX2_arrive ∈ WALL := tb4 (List.mem_of_getElem? (i := 133) rfl) rfl
theorem wp_49 : Cond.selects RX2 yX2_arrive yX2_arrive ∈ WALL := tbS (List.mem_of_getElem? (i := 49) rfl)
theorem wl_4_134 : Cond.code yX2_arrive cX2_arrive 2 none ∈ WALL := tb4 (List.mem_of_getElem? (i := 134) rfl) rfl
theorem wl_2_42 : Cond.fieldLink RX2 26 "NarrowRings$Day" "onCart" "[I" ∈ WALL := tb2 (List.mem_of_getElem? (i := 42) rfl) rfl
theorem hd_X2_leaveCart : yX2_leaveCart.cls ≠ "java/lang/invoke/MethodHandle" ∧ yX2_leaveCart.cls ≠ "java/lang/invoke/VarHandle" ∧ (parseMethodDescriptor yX2_leaveCart.desc).map (fun d => d.parameters.length) = some 1 := by decide +kernel
set_option maxRecDepth 100000 in
set_option maxHeartbeats 4000000 in
theorem M_X2_leaveCart (l : Launch) : MtS l yX2_leaveCart (Cond.code yX2_leaveCart cX2_leaveCart 3 none :: WALL) { frames := 2, cells := 0, slots := 0, locals := 45 } [12, 0] none T_X2_leaveCart := by
  refine MtS.mk (B := E_X2_leaveCart) (by decide +kernel) (by decide) (fun _ _ _ hh => hh) ?_
  intro X Q e1 e2 e3 hC hN hT
  subst e1
  have hC : CF X cX2_leaveCart RX2 WALL := hC
  have S_28 : SdS X 28 [(0, 12), (1, 0), (2, 0)] [] (B_X2_leaveCart_28 Q) := by
    unfold B_X2_leaveCart_28
    refine su_aload_n hC 12 dX2_leaveCart_28 rfl (by decide) (by decide) (?_ : SdS X 29 [(0, 12), (1, 0), (2, 0)] [12] _)
    refine su_getR hC (ci := 2) (j := 2) (C := RX2) (T := TX2) (N := 10) rfl rfl (by decide) in_X2 wl_2_40 rfl dX2_leaveCart_29 (?_ : SdS X 32 [(0, 12), (1, 0), (2, 0)] [200] _)
    refine su_bipush hC dX2_leaveCart_32 (by decide) (?_ : SdS X 34 [(0, 12), (1, 0), (2, 0)] [0, 200] _)
    refine su_aaload (e := 100) hC (List.mem_of_getElem? (i := 7) rfl) rfl rfl rfl dX2_leaveCart_34 (?_ : SdS X 35 [(0, 12), (1, 0), (2, 0)] [100] _)
    refine su_iload_n hC dX2_leaveCart_35 rfl (by decide) (?_ : SdS X 36 [(0, 12), (1, 0), (2, 0)] [0, 100] _)
    refine su_bipush hC dX2_leaveCart_36 (by decide) (?_ : SdS X 38 [(0, 12), (1, 0), (2, 0)] [0, 0, 100] _)
    refine su_iastore hC dX2_leaveCart_38 (?_ : SdS X 39 [(0, 12), (1, 0), (2, 0)] [] _)
    refine su_aload_n hC 12 dX2_leaveCart_39 rfl (by decide) (by decide) (?_ : SdS X 40 [(0, 12), (1, 0), (2, 0)] [12] _)
    refine su_getR hC (ci := 2) (j := 2) (C := RX2) (T := TX2) (N := 10) rfl rfl (by decide) in_X2 wl_2_40 rfl dX2_leaveCart_40 (?_ : SdS X 43 [(0, 12), (1, 0), (2, 0)] [200] _)
    refine su_iconst hC dX2_leaveCart_43 ⟨by decide, by decide⟩ (?_ : SdS X 44 [(0, 12), (1, 0), (2, 0)] [0, 200] _)
    refine su_aaload (e := 100) hC (List.mem_of_getElem? (i := 7) rfl) rfl rfl rfl dX2_leaveCart_44 (?_ : SdS X 45 [(0, 12), (1, 0), (2, 0)] [100] _)
    refine su_iload_n hC dX2_leaveCart_45 rfl (by decide) (?_ : SdS X 46 [(0, 12), (1, 0), (2, 0)] [0, 100] _)
    refine su_aload_n hC 12 dX2_leaveCart_46 rfl (by decide) (by decide) (?_ : SdS X 47 [(0, 12), (1, 0), (2, 0)] [12, 0, 100] _)
    refine su_iload_n hC dX2_leaveCart_47 rfl (by decide) (?_ : SdS X 48 [(0, 12), (1, 0), (2, 0)] [0, 12, 0, 100] _)
    refine su_inv0 (τ := [0, 100]) (τr := [0]) (ci := 2) (q := (RX2, TX2, 10)) hC WG (M_X2_placeAhead _) rfl rfl rfl rfl  rfl rfl wl_4_123 wl_4_125 wp_47 wl_1_7 wl_4_126 hd_X2_placeAhead (by rw [e3]; decide) (by decide) dX2_leaveCart_48 (?_ : SdS X 51 [(0, 12), (1, 0), (2, 0)] [0, 0, 100] _)
    refine su_iastore hC dX2_leaveCart_51 (?_ : SdS X 52 [(0, 12), (1, 0), (2, 0)] [] _)
    refine su_aload_n hC 12 dX2_leaveCart_52 rfl (by decide) (by decide) (?_ : SdS X 53 [(0, 12), (1, 0), (2, 0)] [12] _)
    refine su_iload_n hC dX2_leaveCart_53 rfl (by decide) (?_ : SdS X 54 [(0, 12), (1, 0), (2, 0)] [0, 12] _)
    refine su_inv0v (τ := []) (τr := [0]) (ci := 2) (q := (RX2, TX2, 10)) hC WG (M_X2_arrive _) rfl rfl rfl rfl  rfl rfl wl_4_131 wl_4_133 wp_49 wl_1_7 wl_4_134 hd_X2_arrive (by rw [e3]; decide) (by decide) dX2_leaveCart_54 (?_ : SdS X 57 [(0, 12), (1, 0), (2, 0)] [] _)
    exact su_return hC hT dX2_leaveCart_57
  refine (?_ : SdS X 0 [(0, 12), (1, 0)] [] (E_X2_leaveCart Q))
  unfold E_X2_leaveCart
  refine su_aload_n hC 12 dX2_leaveCart_0 rfl (by decide) (by decide) (?_ : SdS X 1 [(0, 12), (1, 0)] [12] _)
  refine su_getR hC (ci := 2) (j := 2) (C := RX2) (T := TX2) (N := 10) rfl rfl (by decide) in_X2 wl_2_40 rfl dX2_leaveCart_1 (?_ : SdS X 4 [(0, 12), (1, 0)] [200] _)
  refine su_bipush hC dX2_leaveCart_4 (by decide) (?_ : SdS X 6 [(0, 12), (1, 0)] [0, 200] _)
  refine su_aaload (e := 100) hC (List.mem_of_getElem? (i := 7) rfl) rfl rfl rfl dX2_leaveCart_6 (?_ : SdS X 7 [(0, 12), (1, 0)] [100] _)
  refine su_iload_n hC dX2_leaveCart_7 rfl (by decide) (?_ : SdS X 8 [(0, 12), (1, 0)] [0, 100] _)
  refine su_iaload hC dX2_leaveCart_8 (?_ : SdS X 9 [(0, 12), (1, 0)] [0] _)
  refine su_istore_n (Γ' := [(0, 12), (1, 0), (2, 0)]) hC dX2_leaveCart_9 rfl (by rw [e2]; decide) (by decide) (?_ : SdS X 10 [(0, 12), (1, 0), (2, 0)] [] _)
  refine su_iload_n hC dX2_leaveCart_10 rfl (by decide) (?_ : SdS X 11 [(0, 12), (1, 0), (2, 0)] [0] _)
  refine su_if_lt (tgt := 28) hC dX2_leaveCart_11 rfl (?_ : SdS X 28 [(0, 12), (1, 0), (2, 0)] [] _) (?_ : SdS X 14 [(0, 12), (1, 0), (2, 0)] [] _)
  · exact SdS.weak (by decide) (S_28)
  · refine su_iload_n hC dX2_leaveCart_14 rfl (by decide) (?_ : SdS X 15 [(0, 12), (1, 0), (2, 0)] [0] _)
    refine su_bipush hC dX2_leaveCart_15 (by decide) (?_ : SdS X 17 [(0, 12), (1, 0), (2, 0)] [0, 0] _)
    refine su_icmp_ge (tgt := 28) hC dX2_leaveCart_17 rfl (?_ : SdS X 28 [(0, 12), (1, 0), (2, 0)] [] _) (?_ : SdS X 20 [(0, 12), (1, 0), (2, 0)] [] _)
    · exact SdS.weak (by decide) (S_28)
    · refine su_aload_n hC 12 dX2_leaveCart_20 rfl (by decide) (by decide) (?_ : SdS X 21 [(0, 12), (1, 0), (2, 0)] [12] _)
      refine su_getR hC (ci := 2) (j := 3) (C := RX2) (T := TX2) (N := 10) rfl rfl (by decide) in_X2 wl_2_42 rfl dX2_leaveCart_21 (?_ : SdS X 24 [(0, 12), (1, 0), (2, 0)] [100] _)
      refine su_iload_n hC dX2_leaveCart_24 rfl (by decide) (?_ : SdS X 25 [(0, 12), (1, 0), (2, 0)] [0, 100] _)
      refine su_bipush hC dX2_leaveCart_25 (by decide) (?_ : SdS X 27 [(0, 12), (1, 0), (2, 0)] [0, 0, 100] _)
      refine su_iastore hC dX2_leaveCart_27 (?_ : SdS X 28 [(0, 12), (1, 0), (2, 0)] [] _)
      exact SdS.weak (by decide) (S_28)
theorem wl_2_44 : Cond.fieldLink RX2 30 "NarrowRings$Day" "atGate" "[I" ∈ WALL := tb2 (List.mem_of_getElem? (i := 44) rfl) rfl
theorem hd_X2_leaveGate : yX2_leaveGate.cls ≠ "java/lang/invoke/MethodHandle" ∧ yX2_leaveGate.cls ≠ "java/lang/invoke/VarHandle" ∧ (parseMethodDescriptor yX2_leaveGate.desc).map (fun d => d.parameters.length) = some 1 := by decide +kernel
set_option maxRecDepth 100000 in
set_option maxHeartbeats 4000000 in
theorem M_X2_leaveGate (l : Launch) : MtS l yX2_leaveGate (Cond.code yX2_leaveGate cX2_leaveGate 4 none :: WALL) { frames := 2, cells := 0, slots := 0, locals := 45 } [12, 0] none T_X2_leaveGate := by
  refine MtS.mk (B := E_X2_leaveGate) (by decide +kernel) (by decide) (fun _ _ _ hh => hh) ?_
  intro X Q e1 e2 e3 hC hN hT
  subst e1
  have hC : CF X cX2_leaveGate RX2 WALL := hC
  have S_111 : SdS X 111 [(0, 12), (1, 0), (2, 0), (3, 0)] [] (B_X2_leaveGate_111 Q) := by
    unfold B_X2_leaveGate_111
    exact su_return hC hT dX2_leaveGate_111
  have S_58 : SdS X 58 [(0, 12), (1, 0), (2, 0), (3, 0)] [0, 0, 100] (B_X2_leaveGate_58 Q) := by
    unfold B_X2_leaveGate_58
    refine su_iastore hC dX2_leaveGate_58 (?_ : SdS X 59 [(0, 12), (1, 0), (2, 0), (3, 0)] [] _)
    refine su_aload_n hC 12 dX2_leaveGate_59 rfl (by decide) (by decide) (?_ : SdS X 60 [(0, 12), (1, 0), (2, 0), (3, 0)] [12] _)
    refine su_getR hC (ci := 2) (j := 2) (C := RX2) (T := TX2) (N := 10) rfl rfl (by decide) in_X2 wl_2_40 rfl dX2_leaveGate_60 (?_ : SdS X 63 [(0, 12), (1, 0), (2, 0), (3, 0)] [200] _)
    refine su_bipush hC dX2_leaveGate_63 (by decide) (?_ : SdS X 65 [(0, 12), (1, 0), (2, 0), (3, 0)] [0, 200] _)
    refine su_aaload (e := 100) hC (List.mem_of_getElem? (i := 7) rfl) rfl rfl rfl dX2_leaveGate_65 (?_ : SdS X 66 [(0, 12), (1, 0), (2, 0), (3, 0)] [100] _)
    refine su_iload_n hC dX2_leaveGate_66 rfl (by decide) (?_ : SdS X 67 [(0, 12), (1, 0), (2, 0), (3, 0)] [0, 100] _)
    refine su_dup2 hC (by decide) (by decide) dX2_leaveGate_67 (?_ : SdS X 68 [(0, 12), (1, 0), (2, 0), (3, 0)] [0, 100, 0, 100] _)
    refine su_iaload hC dX2_leaveGate_68 (?_ : SdS X 69 [(0, 12), (1, 0), (2, 0), (3, 0)] [0, 0, 100] _)
    refine su_iconst hC dX2_leaveGate_69 ⟨by decide, by decide⟩ (?_ : SdS X 70 [(0, 12), (1, 0), (2, 0), (3, 0)] [0, 0, 0, 100] _)
    refine su_iadd hC dX2_leaveGate_70 (?_ : SdS X 71 [(0, 12), (1, 0), (2, 0), (3, 0)] [0, 0, 100] _)
    refine su_iastore hC dX2_leaveGate_71 (?_ : SdS X 72 [(0, 12), (1, 0), (2, 0), (3, 0)] [] _)
    refine su_aload_n hC 12 dX2_leaveGate_72 rfl (by decide) (by decide) (?_ : SdS X 73 [(0, 12), (1, 0), (2, 0), (3, 0)] [12] _)
    refine su_getR hC (ci := 2) (j := 2) (C := RX2) (T := TX2) (N := 10) rfl rfl (by decide) in_X2 wl_2_40 rfl dX2_leaveGate_73 (?_ : SdS X 76 [(0, 12), (1, 0), (2, 0), (3, 0)] [200] _)
    refine su_iconst hC dX2_leaveGate_76 ⟨by decide, by decide⟩ (?_ : SdS X 77 [(0, 12), (1, 0), (2, 0), (3, 0)] [0, 200] _)
    refine su_aaload (e := 100) hC (List.mem_of_getElem? (i := 7) rfl) rfl rfl rfl dX2_leaveGate_77 (?_ : SdS X 78 [(0, 12), (1, 0), (2, 0), (3, 0)] [100] _)
    refine su_iload_n hC dX2_leaveGate_78 rfl (by decide) (?_ : SdS X 79 [(0, 12), (1, 0), (2, 0), (3, 0)] [0, 100] _)
    refine su_iconst hC dX2_leaveGate_79 ⟨by decide, by decide⟩ (?_ : SdS X 80 [(0, 12), (1, 0), (2, 0), (3, 0)] [0, 0, 100] _)
    refine su_iastore hC dX2_leaveGate_80 (?_ : SdS X 81 [(0, 12), (1, 0), (2, 0), (3, 0)] [] _)
    refine su_aload_n hC 12 dX2_leaveGate_81 rfl (by decide) (by decide) (?_ : SdS X 82 [(0, 12), (1, 0), (2, 0), (3, 0)] [12] _)
    refine su_iload_n hC dX2_leaveGate_82 rfl (by decide) (?_ : SdS X 83 [(0, 12), (1, 0), (2, 0), (3, 0)] [0, 12] _)
    refine su_inv0 (τ := []) (τr := [0]) (ci := 2) (q := (RX2, TX2, 10)) hC WG (M_X2_gateAhead _) rfl rfl rfl rfl  rfl rfl wl_4_127 wl_4_129 wp_48 wl_1_7 wl_4_130 hd_X2_gateAhead (by rw [e3]; decide) (by decide) dX2_leaveGate_83 (?_ : SdS X 86 [(0, 12), (1, 0), (2, 0), (3, 0)] [0] _)
    refine su_iconst hC dX2_leaveGate_86 ⟨by decide, by decide⟩ (?_ : SdS X 87 [(0, 12), (1, 0), (2, 0), (3, 0)] [0, 0] _)
    refine su_icmp_ne (tgt := 111) hC dX2_leaveGate_87 rfl (?_ : SdS X 111 [(0, 12), (1, 0), (2, 0), (3, 0)] [] _) (?_ : SdS X 90 [(0, 12), (1, 0), (2, 0), (3, 0)] [] _)
    · exact SdS.weak (by decide) (S_111)
    · refine su_aload_n hC 12 dX2_leaveGate_90 rfl (by decide) (by decide) (?_ : SdS X 91 [(0, 12), (1, 0), (2, 0), (3, 0)] [12] _)
      refine su_getR hC (ci := 2) (j := 2) (C := RX2) (T := TX2) (N := 10) rfl rfl (by decide) in_X2 wl_2_40 rfl dX2_leaveGate_91 (?_ : SdS X 94 [(0, 12), (1, 0), (2, 0), (3, 0)] [200] _)
      refine su_iconst hC dX2_leaveGate_94 ⟨by decide, by decide⟩ (?_ : SdS X 95 [(0, 12), (1, 0), (2, 0), (3, 0)] [0, 200] _)
      refine su_aaload (e := 100) hC (List.mem_of_getElem? (i := 7) rfl) rfl rfl rfl dX2_leaveGate_95 (?_ : SdS X 96 [(0, 12), (1, 0), (2, 0), (3, 0)] [100] _)
      refine su_iload_n hC dX2_leaveGate_96 rfl (by decide) (?_ : SdS X 97 [(0, 12), (1, 0), (2, 0), (3, 0)] [0, 100] _)
      refine su_iaload hC dX2_leaveGate_97 (?_ : SdS X 98 [(0, 12), (1, 0), (2, 0), (3, 0)] [0] _)
      refine su_aload_n hC 12 dX2_leaveGate_98 rfl (by decide) (by decide) (?_ : SdS X 99 [(0, 12), (1, 0), (2, 0), (3, 0)] [12, 0] _)
      refine su_iload_n hC dX2_leaveGate_99 rfl (by decide) (?_ : SdS X 100 [(0, 12), (1, 0), (2, 0), (3, 0)] [0, 12, 0] _)
      refine su_inv0 (τ := [0]) (τr := [0]) (ci := 2) (q := (RX2, TX2, 10)) hC WG (M_X2_placeAhead _) rfl rfl rfl rfl  rfl rfl wl_4_123 wl_4_125 wp_47 wl_1_7 wl_4_126 hd_X2_placeAhead (by rw [e3]; decide) (by decide) dX2_leaveGate_100 (?_ : SdS X 103 [(0, 12), (1, 0), (2, 0), (3, 0)] [0, 0] _)
      refine su_icmp_ne (tgt := 111) hC dX2_leaveGate_103 rfl (?_ : SdS X 111 [(0, 12), (1, 0), (2, 0), (3, 0)] [] _) (?_ : SdS X 106 [(0, 12), (1, 0), (2, 0), (3, 0)] [] _)
      · exact SdS.weak (by decide) (S_111)
      · refine su_aload_n hC 12 dX2_leaveGate_106 rfl (by decide) (by decide) (?_ : SdS X 107 [(0, 12), (1, 0), (2, 0), (3, 0)] [12] _)
        refine su_iload_n hC dX2_leaveGate_107 rfl (by decide) (?_ : SdS X 108 [(0, 12), (1, 0), (2, 0), (3, 0)] [0, 12] _)
        refine su_inv0v (τ := []) (τr := [0]) (ci := 2) (q := (RX2, TX2, 10)) hC WG (M_X2_arrive _) rfl rfl rfl rfl  rfl rfl wl_4_131 wl_4_133 wp_49 wl_1_7 wl_4_134 hd_X2_arrive (by rw [e3]; decide) (by decide) dX2_leaveGate_108 (?_ : SdS X 111 [(0, 12), (1, 0), (2, 0), (3, 0)] [] _)
        exact SdS.weak (by decide) (S_111)
  refine (?_ : SdS X 0 [(0, 12), (1, 0)] [] (E_X2_leaveGate Q))
  unfold E_X2_leaveGate
  refine su_aload_n hC 12 dX2_leaveGate_0 rfl (by decide) (by decide) (?_ : SdS X 1 [(0, 12), (1, 0)] [12] _)
  refine su_iload_n hC dX2_leaveGate_1 rfl (by decide) (?_ : SdS X 2 [(0, 12), (1, 0)] [0, 12] _)
  refine su_inv0 (τ := []) (τr := [0]) (ci := 2) (q := (RX2, TX2, 10)) hC WG (M_X2_gateAhead _) rfl rfl rfl rfl  rfl rfl wl_4_127 wl_4_129 wp_48 wl_1_7 wl_4_130 hd_X2_gateAhead (by rw [e3]; decide) (by decide) dX2_leaveGate_2 (?_ : SdS X 5 [(0, 12), (1, 0)] [0] _)
  refine su_istore_n (Γ' := [(0, 12), (1, 0), (2, 0)]) hC dX2_leaveGate_5 rfl (by rw [e2]; decide) (by decide) (?_ : SdS X 6 [(0, 12), (1, 0), (2, 0)] [] _)
  refine su_iload_n hC dX2_leaveGate_6 rfl (by decide) (?_ : SdS X 7 [(0, 12), (1, 0), (2, 0)] [0] _)
  refine su_iconst hC dX2_leaveGate_7 ⟨by decide, by decide⟩ (?_ : SdS X 8 [(0, 12), (1, 0), (2, 0)] [0, 0] _)
  refine su_icmp_ne (tgt := 12) hC dX2_leaveGate_8 rfl (?_ : SdS X 12 [(0, 12), (1, 0), (2, 0)] [] _) (?_ : SdS X 11 [(0, 12), (1, 0), (2, 0)] [] _)
  · refine su_aload_n hC 12 dX2_leaveGate_12 rfl (by decide) (by decide) (?_ : SdS X 13 [(0, 12), (1, 0), (2, 0)] [12] _)
    refine su_getR hC (ci := 2) (j := 8) (C := RX2) (T := TX2) (N := 10) rfl rfl (by decide) in_X2 wl_2_51 rfl dX2_leaveGate_13 (?_ : SdS X 16 [(0, 12), (1, 0), (2, 0)] [11] _)
    refine su_getR hC (ci := 1) (j := 6) (C := RX1) (T := TX1) (N := 12) rfl rfl (by decide) in_X1 wl_1_106 rfl dX2_leaveGate_16 (?_ : SdS X 19 [(0, 12), (1, 0), (2, 0)] [200] _)
    refine su_iload_n hC dX2_leaveGate_19 rfl (by decide) (?_ : SdS X 20 [(0, 12), (1, 0), (2, 0)] [0, 200] _)
    refine su_aaload (e := 100) hC (List.mem_of_getElem? (i := 7) rfl) rfl rfl rfl dX2_leaveGate_20 (?_ : SdS X 21 [(0, 12), (1, 0), (2, 0)] [100] _)
    refine su_iconst hC dX2_leaveGate_21 ⟨by decide, by decide⟩ (?_ : SdS X 22 [(0, 12), (1, 0), (2, 0)] [0, 100] _)
    refine su_iaload hC dX2_leaveGate_22 (?_ : SdS X 23 [(0, 12), (1, 0), (2, 0)] [0] _)
    refine su_istore_n (Γ' := [(0, 12), (1, 0), (2, 0), (3, 0)]) hC dX2_leaveGate_23 rfl (by rw [e2]; decide) (by decide) (?_ : SdS X 24 [(0, 12), (1, 0), (2, 0), (3, 0)] [] _)
    refine su_aload_n hC 12 dX2_leaveGate_24 rfl (by decide) (by decide) (?_ : SdS X 25 [(0, 12), (1, 0), (2, 0), (3, 0)] [12] _)
    refine su_getR hC (ci := 2) (j := 4) (C := RX2) (T := TX2) (N := 10) rfl rfl (by decide) in_X2 wl_2_44 rfl dX2_leaveGate_25 (?_ : SdS X 28 [(0, 12), (1, 0), (2, 0), (3, 0)] [100] _)
    refine su_iload_n hC dX2_leaveGate_28 rfl (by decide) (?_ : SdS X 29 [(0, 12), (1, 0), (2, 0), (3, 0)] [0, 100] _)
    refine su_bipush hC dX2_leaveGate_29 (by decide) (?_ : SdS X 31 [(0, 12), (1, 0), (2, 0), (3, 0)] [0, 0, 100] _)
    refine su_iastore hC dX2_leaveGate_31 (?_ : SdS X 32 [(0, 12), (1, 0), (2, 0), (3, 0)] [] _)
    refine su_aload_n hC 12 dX2_leaveGate_32 rfl (by decide) (by decide) (?_ : SdS X 33 [(0, 12), (1, 0), (2, 0), (3, 0)] [12] _)
    refine su_getR hC (ci := 2) (j := 2) (C := RX2) (T := TX2) (N := 10) rfl rfl (by decide) in_X2 wl_2_40 rfl dX2_leaveGate_33 (?_ : SdS X 36 [(0, 12), (1, 0), (2, 0), (3, 0)] [200] _)
    refine su_iconst hC dX2_leaveGate_36 ⟨by decide, by decide⟩ (?_ : SdS X 37 [(0, 12), (1, 0), (2, 0), (3, 0)] [0, 200] _)
    refine su_aaload (e := 100) hC (List.mem_of_getElem? (i := 7) rfl) rfl rfl rfl dX2_leaveGate_37 (?_ : SdS X 38 [(0, 12), (1, 0), (2, 0), (3, 0)] [100] _)
    refine su_iload_n hC dX2_leaveGate_38 rfl (by decide) (?_ : SdS X 39 [(0, 12), (1, 0), (2, 0), (3, 0)] [0, 100] _)
    refine su_aload_n hC 12 dX2_leaveGate_39 rfl (by decide) (by decide) (?_ : SdS X 40 [(0, 12), (1, 0), (2, 0), (3, 0)] [12, 0, 100] _)
    refine su_getR hC (ci := 2) (j := 2) (C := RX2) (T := TX2) (N := 10) rfl rfl (by decide) in_X2 wl_2_40 rfl dX2_leaveGate_40 (?_ : SdS X 43 [(0, 12), (1, 0), (2, 0), (3, 0)] [200, 0, 100] _)
    refine su_iconst hC dX2_leaveGate_43 ⟨by decide, by decide⟩ (?_ : SdS X 44 [(0, 12), (1, 0), (2, 0), (3, 0)] [0, 200, 0, 100] _)
    refine su_aaload (e := 100) hC (List.mem_of_getElem? (i := 7) rfl) rfl rfl rfl dX2_leaveGate_44 (?_ : SdS X 45 [(0, 12), (1, 0), (2, 0), (3, 0)] [100, 0, 100] _)
    refine su_iload_n hC dX2_leaveGate_45 rfl (by decide) (?_ : SdS X 46 [(0, 12), (1, 0), (2, 0), (3, 0)] [0, 100, 0, 100] _)
    refine su_iaload hC dX2_leaveGate_46 (?_ : SdS X 47 [(0, 12), (1, 0), (2, 0), (3, 0)] [0, 0, 100] _)
    refine su_iload_n hC dX2_leaveGate_47 rfl (by decide) (?_ : SdS X 48 [(0, 12), (1, 0), (2, 0), (3, 0)] [0, 0, 0, 100] _)
    refine su_icmp_ne (tgt := 57) hC dX2_leaveGate_48 rfl (?_ : SdS X 57 [(0, 12), (1, 0), (2, 0), (3, 0)] [0, 100] _) (?_ : SdS X 51 [(0, 12), (1, 0), (2, 0), (3, 0)] [0, 100] _)
    · refine su_iload_n hC dX2_leaveGate_57 rfl (by decide) (?_ : SdS X 58 [(0, 12), (1, 0), (2, 0), (3, 0)] [0, 0, 100] _)
      exact SdS.weak (by decide) (S_58)
    · refine su_iload_n hC dX2_leaveGate_51 rfl (by decide) (?_ : SdS X 52 [(0, 12), (1, 0), (2, 0), (3, 0)] [0, 0, 100] _)
      refine su_iconst hC dX2_leaveGate_52 ⟨by decide, by decide⟩ (?_ : SdS X 53 [(0, 12), (1, 0), (2, 0), (3, 0)] [0, 0, 0, 100] _)
      refine su_iadd hC dX2_leaveGate_53 (?_ : SdS X 54 [(0, 12), (1, 0), (2, 0), (3, 0)] [0, 0, 100] _)
      refine su_goto (tgt := 58) hC dX2_leaveGate_54 rfl (?_ : SdS X 58 [(0, 12), (1, 0), (2, 0), (3, 0)] [0, 0, 100] _)
      exact SdS.weak (by decide) (S_58)
  · exact su_return hC hT dX2_leaveGate_11
theorem wl_4_135 : Cond.methodLink RX2 109 yX2_leaveGate ∈ WALL := tb4 (List.mem_of_getElem? (i := 135) rfl) rfl
theorem wl_4_137 : Cond.instanceMethod yX2_leaveGate ∈ WALL := tb4 (List.mem_of_getElem? (i := 137) rfl) rfl
theorem wp_50 : Cond.selects RX2 yX2_leaveGate yX2_leaveGate ∈ WALL := tbS (List.mem_of_getElem? (i := 50) rfl)
theorem wl_4_138 : Cond.code yX2_leaveGate cX2_leaveGate 4 none ∈ WALL := tb4 (List.mem_of_getElem? (i := 138) rfl) rfl
theorem wl_4_119 : Cond.methodLink RX2 106 yX2_leaveCart ∈ WALL := tb4 (List.mem_of_getElem? (i := 119) rfl) rfl
theorem wl_4_121 : Cond.instanceMethod yX2_leaveCart ∈ WALL := tb4 (List.mem_of_getElem? (i := 121) rfl) rfl
theorem wp_46 : Cond.selects RX2 yX2_leaveCart yX2_leaveCart ∈ WALL := tbS (List.mem_of_getElem? (i := 46) rfl)
theorem wl_4_122 : Cond.code yX2_leaveCart cX2_leaveCart 3 none ∈ WALL := tb4 (List.mem_of_getElem? (i := 122) rfl) rfl
theorem hd_X2_advance : yX2_advance.cls ≠ "java/lang/invoke/MethodHandle" ∧ yX2_advance.cls ≠ "java/lang/invoke/VarHandle" ∧ (parseMethodDescriptor yX2_advance.desc).map (fun d => d.parameters.length) = some 1 := by decide +kernel
set_option maxRecDepth 100000 in
set_option maxHeartbeats 4000000 in
theorem M_X2_advance (l : Launch) : MtS l yX2_advance (Cond.code yX2_advance cX2_advance 3 none :: WALL) { frames := 3, cells := 0, slots := 0, locals := 68 } [12, 0] none T_X2_advance := by
  refine MtS.mk (B := E_X2_advance) (by decide +kernel) (by decide) (fun _ _ _ hh => hh) ?_
  intro X Q e1 e2 e3 hC hN hT
  subst e1
  have hC : CF X cX2_advance RX2 WALL := hC
  have S_62 : SdS X 62 [(0, 12), (1, 0), (2, 0)] [] (B_X2_advance_62 Q) := by
    unfold B_X2_advance_62
    exact su_return hC hT dX2_advance_62
  have S_20 : SdS X 20 [(0, 12), (1, 0), (2, 0)] [] (B_X2_advance_20 Q) := by
    unfold B_X2_advance_20
    refine su_aload_n hC 12 dX2_advance_20 rfl (by decide) (by decide) (?_ : SdS X 21 [(0, 12), (1, 0), (2, 0)] [12] _)
    refine su_getR hC (ci := 2) (j := 2) (C := RX2) (T := TX2) (N := 10) rfl rfl (by decide) in_X2 wl_2_40 rfl dX2_advance_21 (?_ : SdS X 24 [(0, 12), (1, 0), (2, 0)] [200] _)
    refine su_iconst hC dX2_advance_24 ⟨by decide, by decide⟩ (?_ : SdS X 25 [(0, 12), (1, 0), (2, 0)] [0, 200] _)
    refine su_aaload (e := 100) hC (List.mem_of_getElem? (i := 7) rfl) rfl rfl rfl dX2_advance_25 (?_ : SdS X 26 [(0, 12), (1, 0), (2, 0)] [100] _)
    refine su_iload_n hC dX2_advance_26 rfl (by decide) (?_ : SdS X 27 [(0, 12), (1, 0), (2, 0)] [0, 100] _)
    refine su_dup2 hC (by decide) (by decide) dX2_advance_27 (?_ : SdS X 28 [(0, 12), (1, 0), (2, 0)] [0, 100, 0, 100] _)
    refine su_iaload hC dX2_advance_28 (?_ : SdS X 29 [(0, 12), (1, 0), (2, 0)] [0, 0, 100] _)
    refine su_iconst hC dX2_advance_29 ⟨by decide, by decide⟩ (?_ : SdS X 30 [(0, 12), (1, 0), (2, 0)] [0, 0, 0, 100] _)
    refine su_isub hC dX2_advance_30 (?_ : SdS X 31 [(0, 12), (1, 0), (2, 0)] [0, 0, 100] _)
    refine su_iastore hC dX2_advance_31 (?_ : SdS X 32 [(0, 12), (1, 0), (2, 0)] [] _)
    refine su_aload_n hC 12 dX2_advance_32 rfl (by decide) (by decide) (?_ : SdS X 33 [(0, 12), (1, 0), (2, 0)] [12] _)
    refine su_getR hC (ci := 2) (j := 2) (C := RX2) (T := TX2) (N := 10) rfl rfl (by decide) in_X2 wl_2_40 rfl dX2_advance_33 (?_ : SdS X 36 [(0, 12), (1, 0), (2, 0)] [200] _)
    refine su_iconst hC dX2_advance_36 ⟨by decide, by decide⟩ (?_ : SdS X 37 [(0, 12), (1, 0), (2, 0)] [0, 200] _)
    refine su_aaload (e := 100) hC (List.mem_of_getElem? (i := 7) rfl) rfl rfl rfl dX2_advance_37 (?_ : SdS X 38 [(0, 12), (1, 0), (2, 0)] [100] _)
    refine su_iload_n hC dX2_advance_38 rfl (by decide) (?_ : SdS X 39 [(0, 12), (1, 0), (2, 0)] [0, 100] _)
    refine su_iaload hC dX2_advance_39 (?_ : SdS X 40 [(0, 12), (1, 0), (2, 0)] [0] _)
    refine su_if_le (tgt := 44) hC dX2_advance_40 rfl (?_ : SdS X 44 [(0, 12), (1, 0), (2, 0)] [] _) (?_ : SdS X 43 [(0, 12), (1, 0), (2, 0)] [] _)
    · refine su_iload_n hC dX2_advance_44 rfl (by decide) (?_ : SdS X 45 [(0, 12), (1, 0), (2, 0)] [0] _)
      refine su_iconst hC dX2_advance_45 ⟨by decide, by decide⟩ (?_ : SdS X 46 [(0, 12), (1, 0), (2, 0)] [0, 0] _)
      refine su_icmp_ne (tgt := 57) hC dX2_advance_46 rfl (?_ : SdS X 57 [(0, 12), (1, 0), (2, 0)] [] _) (?_ : SdS X 49 [(0, 12), (1, 0), (2, 0)] [] _)
      · refine su_aload_n hC 12 dX2_advance_57 rfl (by decide) (by decide) (?_ : SdS X 58 [(0, 12), (1, 0), (2, 0)] [12] _)
        refine su_iload_n hC dX2_advance_58 rfl (by decide) (?_ : SdS X 59 [(0, 12), (1, 0), (2, 0)] [0, 12] _)
        refine su_inv0v (τ := []) (τr := [0]) (ci := 2) (q := (RX2, TX2, 10)) hC WG (M_X2_leaveGate _) rfl rfl rfl rfl  rfl rfl wl_4_135 wl_4_137 wp_50 wl_1_7 wl_4_138 hd_X2_leaveGate (by rw [e3]; decide) (by decide) dX2_advance_59 (?_ : SdS X 62 [(0, 12), (1, 0), (2, 0)] [] _)
        exact SdS.weak (by decide) (S_62)
      · refine su_aload_n hC 12 dX2_advance_49 rfl (by decide) (by decide) (?_ : SdS X 50 [(0, 12), (1, 0), (2, 0)] [12] _)
        refine su_iload_n hC dX2_advance_50 rfl (by decide) (?_ : SdS X 51 [(0, 12), (1, 0), (2, 0)] [0, 12] _)
        refine su_inv0v (τ := []) (τr := [0]) (ci := 2) (q := (RX2, TX2, 10)) hC WG (M_X2_leaveCart _) rfl rfl rfl rfl  rfl rfl wl_4_119 wl_4_121 wp_46 wl_1_7 wl_4_122 hd_X2_leaveCart (by rw [e3]; decide) (by decide) dX2_advance_51 (?_ : SdS X 54 [(0, 12), (1, 0), (2, 0)] [] _)
        refine su_goto (tgt := 62) hC dX2_advance_54 rfl (?_ : SdS X 62 [(0, 12), (1, 0), (2, 0)] [] _)
        exact SdS.weak (by decide) (S_62)
    · exact su_return hC hT dX2_advance_43
  refine (?_ : SdS X 0 [(0, 12), (1, 0)] [] (E_X2_advance Q))
  unfold E_X2_advance
  refine su_aload_n hC 12 dX2_advance_0 rfl (by decide) (by decide) (?_ : SdS X 1 [(0, 12), (1, 0)] [12] _)
  refine su_getR hC (ci := 2) (j := 2) (C := RX2) (T := TX2) (N := 10) rfl rfl (by decide) in_X2 wl_2_40 rfl dX2_advance_1 (?_ : SdS X 4 [(0, 12), (1, 0)] [200] _)
  refine su_iconst hC dX2_advance_4 ⟨by decide, by decide⟩ (?_ : SdS X 5 [(0, 12), (1, 0)] [0, 200] _)
  refine su_aaload (e := 100) hC (List.mem_of_getElem? (i := 7) rfl) rfl rfl rfl dX2_advance_5 (?_ : SdS X 6 [(0, 12), (1, 0)] [100] _)
  refine su_iload_n hC dX2_advance_6 rfl (by decide) (?_ : SdS X 7 [(0, 12), (1, 0)] [0, 100] _)
  refine su_iaload hC dX2_advance_7 (?_ : SdS X 8 [(0, 12), (1, 0)] [0] _)
  refine su_istore_n (Γ' := [(0, 12), (1, 0), (2, 0)]) hC dX2_advance_8 rfl (by rw [e2]; decide) (by decide) (?_ : SdS X 9 [(0, 12), (1, 0), (2, 0)] [] _)
  refine su_iload_n hC dX2_advance_9 rfl (by decide) (?_ : SdS X 10 [(0, 12), (1, 0), (2, 0)] [0] _)
  refine su_iconst hC dX2_advance_10 ⟨by decide, by decide⟩ (?_ : SdS X 11 [(0, 12), (1, 0), (2, 0)] [0, 0] _)
  refine su_icmp_eq (tgt := 20) hC dX2_advance_11 rfl (?_ : SdS X 20 [(0, 12), (1, 0), (2, 0)] [] _) (?_ : SdS X 14 [(0, 12), (1, 0), (2, 0)] [] _)
  · exact SdS.weak (by decide) (S_20)
  · refine su_iload_n hC dX2_advance_14 rfl (by decide) (?_ : SdS X 15 [(0, 12), (1, 0), (2, 0)] [0] _)
    refine su_iconst hC dX2_advance_15 ⟨by decide, by decide⟩ (?_ : SdS X 16 [(0, 12), (1, 0), (2, 0)] [0, 0] _)
    refine su_icmp_eq (tgt := 20) hC dX2_advance_16 rfl (?_ : SdS X 20 [(0, 12), (1, 0), (2, 0)] [] _) (?_ : SdS X 19 [(0, 12), (1, 0), (2, 0)] [] _)
    · exact SdS.weak (by decide) (S_20)
    · exact su_return hC hT dX2_advance_19
theorem hd_X2_allWaits : yX2_allWaits.cls ≠ "java/lang/invoke/MethodHandle" ∧ yX2_allWaits.cls ≠ "java/lang/invoke/VarHandle" ∧ (parseMethodDescriptor yX2_allWaits.desc).map (fun d => d.parameters.length) = some 0 := by decide +kernel
set_option maxRecDepth 100000 in
set_option maxHeartbeats 4000000 in
theorem M_X2_allWaits (l : Launch) : MtS l yX2_allWaits (Cond.code yX2_allWaits cX2_allWaits 3 (some .int) :: WALL) { frames := 0, cells := 0, slots := 0, locals := 0 } [12] (some 0) T_X2_allWaits := by
  refine MtS.mk (B := E_X2_allWaits) (by decide +kernel) (by decide) (fun _ _ _ hh => hh) ?_
  intro X Q e1 e2 e3 hC hN hT
  subst e1
  have hC : CF X cX2_allWaits RX2 WALL := hC
  have S_4 : SdS X 4 [(0, 12), (1, 0), (2, 0)] [] (L_X2_allWaits_4 Q) := by
    unfold L_X2_allWaits_4
    refine SdS.loop (fun k4 h4 => ?_)
    refine su_iload_n hC dX2_allWaits_4 rfl (by decide) (?_ : SdS X 5 [(0, 12), (1, 0), (2, 0)] [0] _)
    refine su_aload_n hC 12 dX2_allWaits_5 rfl (by decide) (by decide) (?_ : SdS X 6 [(0, 12), (1, 0), (2, 0)] [12, 0] _)
    refine su_getF hC (ci := 2) (j := 1) (C := RX2) (T := TX2) (N := 10) rfl rfl (by decide) in_X2 wl_2_38 rfl dX2_allWaits_6 (?_ : SdS X 9 [(0, 12), (1, 0), (2, 0)] [0, 0] _)
    refine su_icmp_ge (tgt := 29) hC dX2_allWaits_9 rfl (?_ : SdS X 29 [(0, 12), (1, 0), (2, 0)] [] _) (?_ : SdS X 12 [(0, 12), (1, 0), (2, 0)] [] _)
    · refine su_iload_n hC dX2_allWaits_29 rfl (by decide) (?_ : SdS X 30 [(0, 12), (1, 0), (2, 0)] [0] _)
      exact su_ireturn hC hT dX2_allWaits_30
    · refine su_iload_n hC dX2_allWaits_12 rfl (by decide) (?_ : SdS X 13 [(0, 12), (1, 0), (2, 0)] [0] _)
      refine su_aload_n hC 12 dX2_allWaits_13 rfl (by decide) (by decide) (?_ : SdS X 14 [(0, 12), (1, 0), (2, 0)] [12, 0] _)
      refine su_getR hC (ci := 2) (j := 2) (C := RX2) (T := TX2) (N := 10) rfl rfl (by decide) in_X2 wl_2_40 rfl dX2_allWaits_14 (?_ : SdS X 17 [(0, 12), (1, 0), (2, 0)] [200, 0] _)
      refine su_iconst hC dX2_allWaits_17 ⟨by decide, by decide⟩ (?_ : SdS X 18 [(0, 12), (1, 0), (2, 0)] [0, 200, 0] _)
      refine su_aaload (e := 100) hC (List.mem_of_getElem? (i := 7) rfl) rfl rfl rfl dX2_allWaits_18 (?_ : SdS X 19 [(0, 12), (1, 0), (2, 0)] [100, 0] _)
      refine su_iload_n hC dX2_allWaits_19 rfl (by decide) (?_ : SdS X 20 [(0, 12), (1, 0), (2, 0)] [0, 100, 0] _)
      refine su_iaload hC dX2_allWaits_20 (?_ : SdS X 21 [(0, 12), (1, 0), (2, 0)] [0, 0] _)
      refine su_iadd hC dX2_allWaits_21 (?_ : SdS X 22 [(0, 12), (1, 0), (2, 0)] [0] _)
      refine su_istore_n (Γ' := [(0, 12), (1, 0), (2, 0)]) hC dX2_allWaits_22 rfl (by rw [e2]; decide) (by decide) (?_ : SdS X 23 [(0, 12), (1, 0), (2, 0)] [] _)
      refine su_iinc (Γ' := [(0, 12), (1, 0), (2, 0)]) hC dX2_allWaits_23 (by decide) (by rw [e2]; decide) (by decide) (?_ : SdS X 26 [(0, 12), (1, 0), (2, 0)] [] _)
      refine su_goto (tgt := 4) hC dX2_allWaits_26 rfl (?_ : SdS X 4 [(0, 12), (1, 0), (2, 0)] [] _)
      exact SdS.weak (by decide) h4
  refine (?_ : SdS X 0 [(0, 12)] [] (E_X2_allWaits Q))
  unfold E_X2_allWaits
  refine su_iconst hC dX2_allWaits_0 ⟨by decide, by decide⟩ (?_ : SdS X 1 [(0, 12)] [0] _)
  refine su_istore_n (Γ' := [(0, 12), (1, 0)]) hC dX2_allWaits_1 rfl (by rw [e2]; decide) (by decide) (?_ : SdS X 2 [(0, 12), (1, 0)] [] _)
  refine su_iconst hC dX2_allWaits_2 ⟨by decide, by decide⟩ (?_ : SdS X 3 [(0, 12), (1, 0)] [0] _)
  refine su_istore_n (Γ' := [(0, 12), (1, 0), (2, 0)]) hC dX2_allWaits_3 rfl (by rw [e2]; decide) (by decide) (?_ : SdS X 4 [(0, 12), (1, 0), (2, 0)] [] _)
  exact SdS.weak (by decide) (S_4)
theorem wl_3_220 : Cond.methodLink RX2 49 yJ7_fill_53178 ∈ WALL := tb3 (List.mem_of_getElem? (i := 220) rfl) rfl
theorem wl_2_46 : Cond.fieldLink RX2 33 "NarrowRings$Day" "paid" "[I" ∈ WALL := tb2 (List.mem_of_getElem? (i := 46) rfl) rfl
theorem wl_2_48 : Cond.fieldLink RX2 36 "NarrowRings$Day" "toiled" "[I" ∈ WALL := tb2 (List.mem_of_getElem? (i := 48) rfl) rfl
theorem wl_1_96 : Cond.fieldLink RX2 55 "NarrowRings$City" "orders" "I" ∈ WALL := tb1 (List.mem_of_getElem? (i := 96) rfl) rfl
theorem wl_1_234 : Cond.fieldLink RX2 58 "NarrowRings$Way" "found" "Z" ∈ WALL := tb1 (List.mem_of_getElem? (i := 234) rfl) rfl
theorem wl_3_221 : Cond.methodLink RX2 65 yX2_addLoad ∈ WALL := tb3 (List.mem_of_getElem? (i := 221) rfl) rfl
theorem wl_3_223 : Cond.instanceMethod yX2_addLoad ∈ WALL := tb3 (List.mem_of_getElem? (i := 223) rfl) rfl
theorem wp_33 : Cond.selects RX2 yX2_addLoad yX2_addLoad ∈ WALL := tbS (List.mem_of_getElem? (i := 33) rfl)
theorem wl_3_224 : Cond.code yX2_addLoad cX2_addLoad 2 none ∈ WALL := tb3 (List.mem_of_getElem? (i := 224) rfl) rfl
theorem wl_2_4 : Cond.fieldLink RX2 64 "NarrowRings$Way" "loads" "I" ∈ WALL := tb2 (List.mem_of_getElem? (i := 4) rfl) rfl
theorem hd_X2_begin : yX2_begin.cls ≠ "java/lang/invoke/MethodHandle" ∧ yX2_begin.cls ≠ "java/lang/invoke/VarHandle" ∧ (parseMethodDescriptor yX2_begin.desc).map (fun d => d.parameters.length) = some 2 := by decide +kernel
set_option maxRecDepth 100000 in
set_option maxHeartbeats 4000000 in
theorem M_X2_begin (l : Launch) : MtS l yX2_begin (Cond.code yX2_begin cX2_begin 6 none :: WALL) { frames := 1, cells := 0, slots := 0, locals := 23 } [12, 11, 117] none T_X2_begin := by
  refine MtS.mk (B := E_X2_begin) (by decide +kernel) (by decide) (fun _ _ _ hh => hh) ?_
  intro X Q e1 e2 e3 hC hN hT
  subst e1
  have hC : CF X cX2_begin RX2 WALL := hC
  have S_124 : ∀ (k56 : xK), SdS X 56 [(0, 12), (1, 11), (2, 117), (3, 0)] [] k56 → SdS X 124 [(0, 12), (1, 11), (2, 117), (3, 0), (4, 0), (5, 0)] [] (B_X2_begin_124 Q k56) := by
    intro k56 h56
    unfold B_X2_begin_124
    refine su_iinc (Γ' := [(0, 12), (1, 11), (2, 117), (3, 0), (4, 0), (5, 0)]) hC dX2_begin_124 (by decide) (by rw [e2]; decide) (by decide) (?_ : SdS X 127 [(0, 12), (1, 11), (2, 117), (3, 0), (4, 0), (5, 0)] [] _)
    refine su_goto (tgt := 56) hC dX2_begin_127 rfl (?_ : SdS X 56 [(0, 12), (1, 11), (2, 117), (3, 0), (4, 0), (5, 0)] [] _)
    exact SdS.weak (by decide) h56
  have S_97 : ∀ (k56 : xK), SdS X 56 [(0, 12), (1, 11), (2, 117), (3, 0)] [] k56 → SdS X 97 [(0, 12), (1, 11), (2, 117), (3, 0), (4, 0), (5, 0)] [] (L_X2_begin_97 Q k56) := by
    intro k56 h56
    unfold L_X2_begin_97
    refine SdS.loop (fun k97 h97 => ?_)
    refine su_iload hC dX2_begin_97 (by decide) (?_ : SdS X 99 [(0, 12), (1, 11), (2, 117), (3, 0), (4, 0), (5, 0)] [0] _)
    refine su_iload hC dX2_begin_99 (by decide) (?_ : SdS X 101 [(0, 12), (1, 11), (2, 117), (3, 0), (4, 0), (5, 0)] [0, 0] _)
    refine su_icmp_ge (tgt := 124) hC dX2_begin_101 rfl (?_ : SdS X 124 [(0, 12), (1, 11), (2, 117), (3, 0), (4, 0), (5, 0)] [] _) (?_ : SdS X 104 [(0, 12), (1, 11), (2, 117), (3, 0), (4, 0), (5, 0)] [] _)
    · exact SdS.weak (by decide) (S_124 k56 h56)
    · refine su_aload_n hC 12 dX2_begin_104 rfl (by decide) (by decide) (?_ : SdS X 105 [(0, 12), (1, 11), (2, 117), (3, 0), (4, 0), (5, 0)] [12] _)
      refine su_getF hC (ci := 2) (j := 1) (C := RX2) (T := TX2) (N := 10) rfl rfl (by decide) in_X2 wl_2_38 rfl dX2_begin_105 (?_ : SdS X 108 [(0, 12), (1, 11), (2, 117), (3, 0), (4, 0), (5, 0)] [0] _)
      refine su_bipush hC dX2_begin_108 (by decide) (?_ : SdS X 110 [(0, 12), (1, 11), (2, 117), (3, 0), (4, 0), (5, 0)] [0, 0] _)
      refine su_icmp_ge (tgt := 124) hC dX2_begin_110 rfl (?_ : SdS X 124 [(0, 12), (1, 11), (2, 117), (3, 0), (4, 0), (5, 0)] [] _) (?_ : SdS X 113 [(0, 12), (1, 11), (2, 117), (3, 0), (4, 0), (5, 0)] [] _)
      · exact SdS.weak (by decide) (S_124 k56 h56)
      · refine su_aload_n hC 12 dX2_begin_113 rfl (by decide) (by decide) (?_ : SdS X 114 [(0, 12), (1, 11), (2, 117), (3, 0), (4, 0), (5, 0)] [12] _)
        refine su_iload_n hC dX2_begin_114 rfl (by decide) (?_ : SdS X 115 [(0, 12), (1, 11), (2, 117), (3, 0), (4, 0), (5, 0)] [0, 12] _)
        refine su_inv0v (τ := []) (τr := [0]) (ci := 2) (q := (RX2, TX2, 10)) hC WG (M_X2_addLoad _) rfl rfl rfl rfl  rfl rfl wl_3_221 wl_3_223 wp_33 wl_1_7 wl_3_224 hd_X2_addLoad (by rw [e3]; decide) (by decide) dX2_begin_115 (?_ : SdS X 118 [(0, 12), (1, 11), (2, 117), (3, 0), (4, 0), (5, 0)] [] _)
        refine su_iinc (Γ' := [(0, 12), (1, 11), (2, 117), (3, 0), (4, 0), (5, 0)]) hC dX2_begin_118 (by decide) (by rw [e2]; decide) (by decide) (?_ : SdS X 121 [(0, 12), (1, 11), (2, 117), (3, 0), (4, 0), (5, 0)] [] _)
        refine su_goto (tgt := 97) hC dX2_begin_121 rfl (?_ : SdS X 97 [(0, 12), (1, 11), (2, 117), (3, 0), (4, 0), (5, 0)] [] _)
        exact SdS.weak (by decide) h97
  have S_92 : ∀ (k56 : xK), SdS X 56 [(0, 12), (1, 11), (2, 117), (3, 0)] [] k56 → SdS X 92 [(0, 12), (1, 11), (2, 117), (3, 0)] [0] (B_X2_begin_92 Q k56) := by
    intro k56 h56
    unfold B_X2_begin_92
    refine su_istore (Γ' := [(0, 12), (1, 11), (2, 117), (3, 0), (4, 0)]) hC dX2_begin_92 (by rw [e2]; decide) (by decide) (?_ : SdS X 94 [(0, 12), (1, 11), (2, 117), (3, 0), (4, 0)] [] _)
    refine su_iconst hC dX2_begin_94 ⟨by decide, by decide⟩ (?_ : SdS X 95 [(0, 12), (1, 11), (2, 117), (3, 0), (4, 0)] [0] _)
    refine su_istore (Γ' := [(0, 12), (1, 11), (2, 117), (3, 0), (4, 0), (5, 0)]) hC dX2_begin_95 (by rw [e2]; decide) (by decide) (?_ : SdS X 97 [(0, 12), (1, 11), (2, 117), (3, 0), (4, 0), (5, 0)] [] _)
    exact SdS.weak (by decide) (S_97 k56 h56)
  have S_56 : SdS X 56 [(0, 12), (1, 11), (2, 117), (3, 0)] [] (L_X2_begin_56 Q) := by
    unfold L_X2_begin_56
    refine SdS.loop (fun k56 h56 => ?_)
    refine su_iload_n hC dX2_begin_56 rfl (by decide) (?_ : SdS X 57 [(0, 12), (1, 11), (2, 117), (3, 0)] [0] _)
    refine su_aload_n hC 12 dX2_begin_57 rfl (by decide) (by decide) (?_ : SdS X 58 [(0, 12), (1, 11), (2, 117), (3, 0)] [12, 0] _)
    refine su_getR hC (ci := 2) (j := 8) (C := RX2) (T := TX2) (N := 10) rfl rfl (by decide) in_X2 wl_2_51 rfl dX2_begin_58 (?_ : SdS X 61 [(0, 12), (1, 11), (2, 117), (3, 0)] [11, 0] _)
    refine su_getF hC (ci := 1) (j := 4) (C := RX1) (T := TX1) (N := 12) rfl rfl (by decide) in_X1 wl_1_96 rfl dX2_begin_61 (?_ : SdS X 64 [(0, 12), (1, 11), (2, 117), (3, 0)] [0, 0] _)
    refine su_icmp_ge (tgt := 130) hC dX2_begin_64 rfl (?_ : SdS X 130 [(0, 12), (1, 11), (2, 117), (3, 0)] [] _) (?_ : SdS X 67 [(0, 12), (1, 11), (2, 117), (3, 0)] [] _)
    · exact su_return hC hT dX2_begin_130
    · refine su_aload_n hC 12 dX2_begin_67 rfl (by decide) (by decide) (?_ : SdS X 68 [(0, 12), (1, 11), (2, 117), (3, 0)] [12] _)
      refine su_getR hC (ci := 2) (j := 9) (C := RX2) (T := TX2) (N := 10) rfl rfl (by decide) in_X2 wl_2_52 rfl dX2_begin_68 (?_ : SdS X 71 [(0, 12), (1, 11), (2, 117), (3, 0)] [117] _)
      refine su_iload_n hC dX2_begin_71 rfl (by decide) (?_ : SdS X 72 [(0, 12), (1, 11), (2, 117), (3, 0)] [0, 117] _)
      refine su_aaload (e := 17) hC (List.mem_of_getElem? (i := 6) rfl) rfl rfl rfl dX2_begin_72 (?_ : SdS X 73 [(0, 12), (1, 11), (2, 117), (3, 0)] [17] _)
      refine su_getF hC (ci := 7) (j := 0) (C := RX7) (T := TX7) (N := 7) rfl rfl (by decide) in_X7 wl_1_234 rfl dX2_begin_73 (?_ : SdS X 76 [(0, 12), (1, 11), (2, 117), (3, 0)] [0] _)
      refine su_if_eq (tgt := 91) hC dX2_begin_76 rfl (?_ : SdS X 91 [(0, 12), (1, 11), (2, 117), (3, 0)] [] _) (?_ : SdS X 79 [(0, 12), (1, 11), (2, 117), (3, 0)] [] _)
      · refine su_iconst hC dX2_begin_91 ⟨by decide, by decide⟩ (?_ : SdS X 92 [(0, 12), (1, 11), (2, 117), (3, 0)] [0] _)
        exact SdS.weak (by decide) (S_92 k56 h56)
      · refine su_aload_n hC 12 dX2_begin_79 rfl (by decide) (by decide) (?_ : SdS X 80 [(0, 12), (1, 11), (2, 117), (3, 0)] [12] _)
        refine su_getR hC (ci := 2) (j := 9) (C := RX2) (T := TX2) (N := 10) rfl rfl (by decide) in_X2 wl_2_52 rfl dX2_begin_80 (?_ : SdS X 83 [(0, 12), (1, 11), (2, 117), (3, 0)] [117] _)
        refine su_iload_n hC dX2_begin_83 rfl (by decide) (?_ : SdS X 84 [(0, 12), (1, 11), (2, 117), (3, 0)] [0, 117] _)
        refine su_aaload (e := 17) hC (List.mem_of_getElem? (i := 6) rfl) rfl rfl rfl dX2_begin_84 (?_ : SdS X 85 [(0, 12), (1, 11), (2, 117), (3, 0)] [17] _)
        refine su_getF hC (ci := 7) (j := 4) (C := RX7) (T := TX7) (N := 7) rfl rfl (by decide) in_X7 wl_2_4 rfl dX2_begin_85 (?_ : SdS X 88 [(0, 12), (1, 11), (2, 117), (3, 0)] [0] _)
        refine su_goto (tgt := 92) hC dX2_begin_88 rfl (?_ : SdS X 92 [(0, 12), (1, 11), (2, 117), (3, 0)] [0] _)
        exact SdS.weak (by decide) (S_92 k56 h56)
  refine (?_ : SdS X 0 [(0, 12), (1, 11), (2, 117)] [] (E_X2_begin Q))
  unfold E_X2_begin
  refine su_aload_n hC 12 dX2_begin_0 rfl (by decide) (by decide) (?_ : SdS X 1 [(0, 12), (1, 11), (2, 117)] [12] _)
  refine su_aload_n hC 11 dX2_begin_1 rfl (by decide) (by decide) (?_ : SdS X 2 [(0, 12), (1, 11), (2, 117)] [11, 12] _)
  refine su_putR hC (ci := 2) (j := 8) (C := RX2) (T := TX2) (N := 10) tyX2 tyX2_ok nmX2 rfl rfl (by decide) in_X2 rfl rfl wl_2_51 rfl dX2_begin_2 (?_ : SdS X 5 [(0, 12), (1, 11), (2, 117)] [] _)
  refine su_aload_n hC 12 dX2_begin_5 rfl (by decide) (by decide) (?_ : SdS X 6 [(0, 12), (1, 11), (2, 117)] [12] _)
  refine su_aload_n hC 117 dX2_begin_6 rfl (by decide) (by decide) (?_ : SdS X 7 [(0, 12), (1, 11), (2, 117)] [117, 12] _)
  refine su_putR hC (ci := 2) (j := 9) (C := RX2) (T := TX2) (N := 10) tyX2 tyX2_ok nmX2 rfl rfl (by decide) in_X2 rfl rfl wl_2_52 rfl dX2_begin_7 (?_ : SdS X 10 [(0, 12), (1, 11), (2, 117)] [] _)
  refine su_aload_n hC 12 dX2_begin_10 rfl (by decide) (by decide) (?_ : SdS X 11 [(0, 12), (1, 11), (2, 117)] [12] _)
  refine su_iconst hC dX2_begin_11 ⟨by decide, by decide⟩ (?_ : SdS X 12 [(0, 12), (1, 11), (2, 117)] [0, 12] _)
  refine su_putF hC (ci := 2) (j := 0) (C := RX2) (T := TX2) (N := 10) tyX2 tyX2_ok nmX2 rfl rfl (by decide) in_X2 rfl rfl wl_2_36 rfl dX2_begin_12 (?_ : SdS X 15 [(0, 12), (1, 11), (2, 117)] [] _)
  refine su_aload_n hC 12 dX2_begin_15 rfl (by decide) (by decide) (?_ : SdS X 16 [(0, 12), (1, 11), (2, 117)] [12] _)
  refine su_iconst hC dX2_begin_16 ⟨by decide, by decide⟩ (?_ : SdS X 17 [(0, 12), (1, 11), (2, 117)] [0, 12] _)
  refine su_putF hC (ci := 2) (j := 1) (C := RX2) (T := TX2) (N := 10) tyX2 tyX2_ok nmX2 rfl rfl (by decide) in_X2 rfl rfl wl_2_38 rfl dX2_begin_17 (?_ : SdS X 20 [(0, 12), (1, 11), (2, 117)] [] _)
  refine su_aload_n hC 12 dX2_begin_20 rfl (by decide) (by decide) (?_ : SdS X 21 [(0, 12), (1, 11), (2, 117)] [12] _)
  refine su_getR hC (ci := 2) (j := 3) (C := RX2) (T := TX2) (N := 10) rfl rfl (by decide) in_X2 wl_2_42 rfl dX2_begin_21 (?_ : SdS X 24 [(0, 12), (1, 11), (2, 117)] [100] _)
  refine su_bipush hC dX2_begin_24 (by decide) (?_ : SdS X 26 [(0, 12), (1, 11), (2, 117)] [0, 100] _)
  refine su_invsv (τ := []) (τs := [100, 0]) hC false "" WG (M_J7_fill_53178 _) rfl rfl rfl rfl wl_3_220 wl_2_188 wl_1_11 wl_2_189 hd_J7_fill_53178 (by rw [e3]; decide) (by decide) dX2_begin_26 (?_ : SdS X 29 [(0, 12), (1, 11), (2, 117)] [] _)
  refine su_aload_n hC 12 dX2_begin_29 rfl (by decide) (by decide) (?_ : SdS X 30 [(0, 12), (1, 11), (2, 117)] [12] _)
  refine su_getR hC (ci := 2) (j := 4) (C := RX2) (T := TX2) (N := 10) rfl rfl (by decide) in_X2 wl_2_44 rfl dX2_begin_30 (?_ : SdS X 33 [(0, 12), (1, 11), (2, 117)] [100] _)
  refine su_bipush hC dX2_begin_33 (by decide) (?_ : SdS X 35 [(0, 12), (1, 11), (2, 117)] [0, 100] _)
  refine su_invsv (τ := []) (τs := [100, 0]) hC false "" WG (M_J7_fill_53178 _) rfl rfl rfl rfl wl_3_220 wl_2_188 wl_1_11 wl_2_189 hd_J7_fill_53178 (by rw [e3]; decide) (by decide) dX2_begin_35 (?_ : SdS X 38 [(0, 12), (1, 11), (2, 117)] [] _)
  refine su_aload_n hC 12 dX2_begin_38 rfl (by decide) (by decide) (?_ : SdS X 39 [(0, 12), (1, 11), (2, 117)] [12] _)
  refine su_getR hC (ci := 2) (j := 5) (C := RX2) (T := TX2) (N := 10) rfl rfl (by decide) in_X2 wl_2_46 rfl dX2_begin_39 (?_ : SdS X 42 [(0, 12), (1, 11), (2, 117)] [100] _)
  refine su_iconst hC dX2_begin_42 ⟨by decide, by decide⟩ (?_ : SdS X 43 [(0, 12), (1, 11), (2, 117)] [0, 100] _)
  refine su_invsv (τ := []) (τs := [100, 0]) hC false "" WG (M_J7_fill_53178 _) rfl rfl rfl rfl wl_3_220 wl_2_188 wl_1_11 wl_2_189 hd_J7_fill_53178 (by rw [e3]; decide) (by decide) dX2_begin_43 (?_ : SdS X 46 [(0, 12), (1, 11), (2, 117)] [] _)
  refine su_aload_n hC 12 dX2_begin_46 rfl (by decide) (by decide) (?_ : SdS X 47 [(0, 12), (1, 11), (2, 117)] [12] _)
  refine su_getR hC (ci := 2) (j := 6) (C := RX2) (T := TX2) (N := 10) rfl rfl (by decide) in_X2 wl_2_48 rfl dX2_begin_47 (?_ : SdS X 50 [(0, 12), (1, 11), (2, 117)] [100] _)
  refine su_iconst hC dX2_begin_50 ⟨by decide, by decide⟩ (?_ : SdS X 51 [(0, 12), (1, 11), (2, 117)] [0, 100] _)
  refine su_invsv (τ := []) (τs := [100, 0]) hC false "" WG (M_J7_fill_53178 _) rfl rfl rfl rfl wl_3_220 wl_2_188 wl_1_11 wl_2_189 hd_J7_fill_53178 (by rw [e3]; decide) (by decide) dX2_begin_51 (?_ : SdS X 54 [(0, 12), (1, 11), (2, 117)] [] _)
  refine su_iconst hC dX2_begin_54 ⟨by decide, by decide⟩ (?_ : SdS X 55 [(0, 12), (1, 11), (2, 117)] [0] _)
  refine su_istore_n (Γ' := [(0, 12), (1, 11), (2, 117), (3, 0)]) hC dX2_begin_55 rfl (by rw [e2]; decide) (by decide) (?_ : SdS X 56 [(0, 12), (1, 11), (2, 117), (3, 0)] [] _)
  exact SdS.weak (by decide) (S_56)
theorem wl_4_215 : Cond.methodLink RX2 72 (⟨"java/lang/System", "arraycopy", "(Ljava/lang/Object;ILjava/lang/Object;II)V"⟩ : MethodName) ∈ WALL := tb4 (List.mem_of_getElem? (i := 215) rfl) rfl
theorem hd_X2_copy : yX2_copy.cls ≠ "java/lang/invoke/MethodHandle" ∧ yX2_copy.cls ≠ "java/lang/invoke/VarHandle" ∧ (parseMethodDescriptor yX2_copy.desc).map (fun d => d.parameters.length) = some 1 := by decide +kernel
set_option maxRecDepth 100000 in
set_option maxHeartbeats 4000000 in
theorem M_X2_copy (l : Launch) : MtS l yX2_copy (Cond.code yX2_copy cX2_copy 3 none :: WALL) { frames := 1, cells := 0, slots := 0, locals := 26 } [12, 12] none T_X2_copy := by
  refine MtS.mk (B := E_X2_copy) (by decide +kernel) (by decide) (fun _ _ _ hh => hh) ?_
  intro X Q e1 e2 e3 hC hN hT
  subst e1
  have hC : CF X cX2_copy RX2 WALL := hC
  have S_34 : SdS X 34 [(0, 12), (1, 12), (2, 0)] [] (L_X2_copy_34 Q) := by
    unfold L_X2_copy_34
    refine SdS.loop (fun k34 h34 => ?_)
    refine su_iload_n hC dX2_copy_34 rfl (by decide) (?_ : SdS X 35 [(0, 12), (1, 12), (2, 0)] [0] _)
    refine su_bipush hC dX2_copy_35 (by decide) (?_ : SdS X 37 [(0, 12), (1, 12), (2, 0)] [0, 0] _)
    refine su_icmp_ge (tgt := 67) hC dX2_copy_37 rfl (?_ : SdS X 67 [(0, 12), (1, 12), (2, 0)] [] _) (?_ : SdS X 40 [(0, 12), (1, 12), (2, 0)] [] _)
    · refine su_aload_n hC 12 dX2_copy_67 rfl (by decide) (by decide) (?_ : SdS X 68 [(0, 12), (1, 12), (2, 0)] [12] _)
      refine su_getR hC (ci := 2) (j := 3) (C := RX2) (T := TX2) (N := 10) rfl rfl (by decide) in_X2 wl_2_42 rfl dX2_copy_68 (?_ : SdS X 71 [(0, 12), (1, 12), (2, 0)] [100] _)
      refine su_iconst hC dX2_copy_71 ⟨by decide, by decide⟩ (?_ : SdS X 72 [(0, 12), (1, 12), (2, 0)] [0, 100] _)
      refine su_aload_n hC 12 dX2_copy_72 rfl (by decide) (by decide) (?_ : SdS X 73 [(0, 12), (1, 12), (2, 0)] [12, 0, 100] _)
      refine su_getR hC (ci := 2) (j := 3) (C := RX2) (T := TX2) (N := 10) rfl rfl (by decide) in_X2 wl_2_42 rfl dX2_copy_73 (?_ : SdS X 76 [(0, 12), (1, 12), (2, 0)] [100, 0, 100] _)
      refine su_iconst hC dX2_copy_76 ⟨by decide, by decide⟩ (?_ : SdS X 77 [(0, 12), (1, 12), (2, 0)] [0, 100, 0, 100] _)
      refine su_bipush hC dX2_copy_77 (by decide) (?_ : SdS X 79 [(0, 12), (1, 12), (2, 0)] [0, 0, 100, 0, 100] _)
      refine su_acopy hC wl_4_215 wl_4_217 wl_4_216 wl_1_18 (by rw [e3]; decide) (by decide) dX2_copy_79 (?_ : SdS X 82 [(0, 12), (1, 12), (2, 0)] [] _)
      refine su_aload_n hC 12 dX2_copy_82 rfl (by decide) (by decide) (?_ : SdS X 83 [(0, 12), (1, 12), (2, 0)] [12] _)
      refine su_getR hC (ci := 2) (j := 4) (C := RX2) (T := TX2) (N := 10) rfl rfl (by decide) in_X2 wl_2_44 rfl dX2_copy_83 (?_ : SdS X 86 [(0, 12), (1, 12), (2, 0)] [100] _)
      refine su_iconst hC dX2_copy_86 ⟨by decide, by decide⟩ (?_ : SdS X 87 [(0, 12), (1, 12), (2, 0)] [0, 100] _)
      refine su_aload_n hC 12 dX2_copy_87 rfl (by decide) (by decide) (?_ : SdS X 88 [(0, 12), (1, 12), (2, 0)] [12, 0, 100] _)
      refine su_getR hC (ci := 2) (j := 4) (C := RX2) (T := TX2) (N := 10) rfl rfl (by decide) in_X2 wl_2_44 rfl dX2_copy_88 (?_ : SdS X 91 [(0, 12), (1, 12), (2, 0)] [100, 0, 100] _)
      refine su_iconst hC dX2_copy_91 ⟨by decide, by decide⟩ (?_ : SdS X 92 [(0, 12), (1, 12), (2, 0)] [0, 100, 0, 100] _)
      refine su_bipush hC dX2_copy_92 (by decide) (?_ : SdS X 94 [(0, 12), (1, 12), (2, 0)] [0, 0, 100, 0, 100] _)
      refine su_acopy hC wl_4_215 wl_4_217 wl_4_216 wl_1_18 (by rw [e3]; decide) (by decide) dX2_copy_94 (?_ : SdS X 97 [(0, 12), (1, 12), (2, 0)] [] _)
      refine su_aload_n hC 12 dX2_copy_97 rfl (by decide) (by decide) (?_ : SdS X 98 [(0, 12), (1, 12), (2, 0)] [12] _)
      refine su_getR hC (ci := 2) (j := 5) (C := RX2) (T := TX2) (N := 10) rfl rfl (by decide) in_X2 wl_2_46 rfl dX2_copy_98 (?_ : SdS X 101 [(0, 12), (1, 12), (2, 0)] [100] _)
      refine su_iconst hC dX2_copy_101 ⟨by decide, by decide⟩ (?_ : SdS X 102 [(0, 12), (1, 12), (2, 0)] [0, 100] _)
      refine su_aload_n hC 12 dX2_copy_102 rfl (by decide) (by decide) (?_ : SdS X 103 [(0, 12), (1, 12), (2, 0)] [12, 0, 100] _)
      refine su_getR hC (ci := 2) (j := 5) (C := RX2) (T := TX2) (N := 10) rfl rfl (by decide) in_X2 wl_2_46 rfl dX2_copy_103 (?_ : SdS X 106 [(0, 12), (1, 12), (2, 0)] [100, 0, 100] _)
      refine su_iconst hC dX2_copy_106 ⟨by decide, by decide⟩ (?_ : SdS X 107 [(0, 12), (1, 12), (2, 0)] [0, 100, 0, 100] _)
      refine su_bipush hC dX2_copy_107 (by decide) (?_ : SdS X 109 [(0, 12), (1, 12), (2, 0)] [0, 0, 100, 0, 100] _)
      refine su_acopy hC wl_4_215 wl_4_217 wl_4_216 wl_1_18 (by rw [e3]; decide) (by decide) dX2_copy_109 (?_ : SdS X 112 [(0, 12), (1, 12), (2, 0)] [] _)
      refine su_aload_n hC 12 dX2_copy_112 rfl (by decide) (by decide) (?_ : SdS X 113 [(0, 12), (1, 12), (2, 0)] [12] _)
      refine su_getR hC (ci := 2) (j := 6) (C := RX2) (T := TX2) (N := 10) rfl rfl (by decide) in_X2 wl_2_48 rfl dX2_copy_113 (?_ : SdS X 116 [(0, 12), (1, 12), (2, 0)] [100] _)
      refine su_iconst hC dX2_copy_116 ⟨by decide, by decide⟩ (?_ : SdS X 117 [(0, 12), (1, 12), (2, 0)] [0, 100] _)
      refine su_aload_n hC 12 dX2_copy_117 rfl (by decide) (by decide) (?_ : SdS X 118 [(0, 12), (1, 12), (2, 0)] [12, 0, 100] _)
      refine su_getR hC (ci := 2) (j := 6) (C := RX2) (T := TX2) (N := 10) rfl rfl (by decide) in_X2 wl_2_48 rfl dX2_copy_118 (?_ : SdS X 121 [(0, 12), (1, 12), (2, 0)] [100, 0, 100] _)
      refine su_iconst hC dX2_copy_121 ⟨by decide, by decide⟩ (?_ : SdS X 122 [(0, 12), (1, 12), (2, 0)] [0, 100, 0, 100] _)
      refine su_bipush hC dX2_copy_122 (by decide) (?_ : SdS X 124 [(0, 12), (1, 12), (2, 0)] [0, 0, 100, 0, 100] _)
      refine su_acopy hC wl_4_215 wl_4_217 wl_4_216 wl_1_18 (by rw [e3]; decide) (by decide) dX2_copy_124 (?_ : SdS X 127 [(0, 12), (1, 12), (2, 0)] [] _)
      exact su_return hC hT dX2_copy_127
    · refine su_aload_n hC 12 dX2_copy_40 rfl (by decide) (by decide) (?_ : SdS X 41 [(0, 12), (1, 12), (2, 0)] [12] _)
      refine su_getR hC (ci := 2) (j := 2) (C := RX2) (T := TX2) (N := 10) rfl rfl (by decide) in_X2 wl_2_40 rfl dX2_copy_41 (?_ : SdS X 44 [(0, 12), (1, 12), (2, 0)] [200] _)
      refine su_iload_n hC dX2_copy_44 rfl (by decide) (?_ : SdS X 45 [(0, 12), (1, 12), (2, 0)] [0, 200] _)
      refine su_aaload (e := 100) hC (List.mem_of_getElem? (i := 7) rfl) rfl rfl rfl dX2_copy_45 (?_ : SdS X 46 [(0, 12), (1, 12), (2, 0)] [100] _)
      refine su_iconst hC dX2_copy_46 ⟨by decide, by decide⟩ (?_ : SdS X 47 [(0, 12), (1, 12), (2, 0)] [0, 100] _)
      refine su_aload_n hC 12 dX2_copy_47 rfl (by decide) (by decide) (?_ : SdS X 48 [(0, 12), (1, 12), (2, 0)] [12, 0, 100] _)
      refine su_getR hC (ci := 2) (j := 2) (C := RX2) (T := TX2) (N := 10) rfl rfl (by decide) in_X2 wl_2_40 rfl dX2_copy_48 (?_ : SdS X 51 [(0, 12), (1, 12), (2, 0)] [200, 0, 100] _)
      refine su_iload_n hC dX2_copy_51 rfl (by decide) (?_ : SdS X 52 [(0, 12), (1, 12), (2, 0)] [0, 200, 0, 100] _)
      refine su_aaload (e := 100) hC (List.mem_of_getElem? (i := 7) rfl) rfl rfl rfl dX2_copy_52 (?_ : SdS X 53 [(0, 12), (1, 12), (2, 0)] [100, 0, 100] _)
      refine su_iconst hC dX2_copy_53 ⟨by decide, by decide⟩ (?_ : SdS X 54 [(0, 12), (1, 12), (2, 0)] [0, 100, 0, 100] _)
      refine su_aload_n hC 12 dX2_copy_54 rfl (by decide) (by decide) (?_ : SdS X 55 [(0, 12), (1, 12), (2, 0)] [12, 0, 100, 0, 100] _)
      refine su_getF hC (ci := 2) (j := 1) (C := RX2) (T := TX2) (N := 10) rfl rfl (by decide) in_X2 wl_2_38 rfl dX2_copy_55 (?_ : SdS X 58 [(0, 12), (1, 12), (2, 0)] [0, 0, 100, 0, 100] _)
      refine su_acopy hC wl_4_215 wl_4_217 wl_4_216 wl_1_18 (by rw [e3]; decide) (by decide) dX2_copy_58 (?_ : SdS X 61 [(0, 12), (1, 12), (2, 0)] [] _)
      refine su_iinc (Γ' := [(0, 12), (1, 12), (2, 0)]) hC dX2_copy_61 (by decide) (by rw [e2]; decide) (by decide) (?_ : SdS X 64 [(0, 12), (1, 12), (2, 0)] [] _)
      refine su_goto (tgt := 34) hC dX2_copy_64 rfl (?_ : SdS X 34 [(0, 12), (1, 12), (2, 0)] [] _)
      exact SdS.weak (by decide) h34
  refine (?_ : SdS X 0 [(0, 12), (1, 12)] [] (E_X2_copy Q))
  unfold E_X2_copy
  refine su_aload_n hC 12 dX2_copy_0 rfl (by decide) (by decide) (?_ : SdS X 1 [(0, 12), (1, 12)] [12] _)
  refine su_aload_n hC 12 dX2_copy_1 rfl (by decide) (by decide) (?_ : SdS X 2 [(0, 12), (1, 12)] [12, 12] _)
  refine su_getR hC (ci := 2) (j := 8) (C := RX2) (T := TX2) (N := 10) rfl rfl (by decide) in_X2 wl_2_51 rfl dX2_copy_2 (?_ : SdS X 5 [(0, 12), (1, 12)] [11, 12] _)
  refine su_putR hC (ci := 2) (j := 8) (C := RX2) (T := TX2) (N := 10) tyX2 tyX2_ok nmX2 rfl rfl (by decide) in_X2 rfl rfl wl_2_51 rfl dX2_copy_5 (?_ : SdS X 8 [(0, 12), (1, 12)] [] _)
  refine su_aload_n hC 12 dX2_copy_8 rfl (by decide) (by decide) (?_ : SdS X 9 [(0, 12), (1, 12)] [12] _)
  refine su_aload_n hC 12 dX2_copy_9 rfl (by decide) (by decide) (?_ : SdS X 10 [(0, 12), (1, 12)] [12, 12] _)
  refine su_getR hC (ci := 2) (j := 9) (C := RX2) (T := TX2) (N := 10) rfl rfl (by decide) in_X2 wl_2_52 rfl dX2_copy_10 (?_ : SdS X 13 [(0, 12), (1, 12)] [117, 12] _)
  refine su_putR hC (ci := 2) (j := 9) (C := RX2) (T := TX2) (N := 10) tyX2 tyX2_ok nmX2 rfl rfl (by decide) in_X2 rfl rfl wl_2_52 rfl dX2_copy_13 (?_ : SdS X 16 [(0, 12), (1, 12)] [] _)
  refine su_aload_n hC 12 dX2_copy_16 rfl (by decide) (by decide) (?_ : SdS X 17 [(0, 12), (1, 12)] [12] _)
  refine su_aload_n hC 12 dX2_copy_17 rfl (by decide) (by decide) (?_ : SdS X 18 [(0, 12), (1, 12)] [12, 12] _)
  refine su_getF hC (ci := 2) (j := 0) (C := RX2) (T := TX2) (N := 10) rfl rfl (by decide) in_X2 wl_2_36 rfl dX2_copy_18 (?_ : SdS X 21 [(0, 12), (1, 12)] [0, 12] _)
  refine su_putF hC (ci := 2) (j := 0) (C := RX2) (T := TX2) (N := 10) tyX2 tyX2_ok nmX2 rfl rfl (by decide) in_X2 rfl rfl wl_2_36 rfl dX2_copy_21 (?_ : SdS X 24 [(0, 12), (1, 12)] [] _)
  refine su_aload_n hC 12 dX2_copy_24 rfl (by decide) (by decide) (?_ : SdS X 25 [(0, 12), (1, 12)] [12] _)
  refine su_aload_n hC 12 dX2_copy_25 rfl (by decide) (by decide) (?_ : SdS X 26 [(0, 12), (1, 12)] [12, 12] _)
  refine su_getF hC (ci := 2) (j := 1) (C := RX2) (T := TX2) (N := 10) rfl rfl (by decide) in_X2 wl_2_38 rfl dX2_copy_26 (?_ : SdS X 29 [(0, 12), (1, 12)] [0, 12] _)
  refine su_putF hC (ci := 2) (j := 1) (C := RX2) (T := TX2) (N := 10) tyX2 tyX2_ok nmX2 rfl rfl (by decide) in_X2 rfl rfl wl_2_38 rfl dX2_copy_29 (?_ : SdS X 32 [(0, 12), (1, 12)] [] _)
  refine su_iconst hC dX2_copy_32 ⟨by decide, by decide⟩ (?_ : SdS X 33 [(0, 12), (1, 12)] [0] _)
  refine su_istore_n (Γ' := [(0, 12), (1, 12), (2, 0)]) hC dX2_copy_33 rfl (by rw [e2]; decide) (by decide) (?_ : SdS X 34 [(0, 12), (1, 12), (2, 0)] [] _)
  exact SdS.weak (by decide) (S_34)
theorem wl_1_237 : Cond.fieldLink RX2 87 "NarrowRings$Way" "cut" "Z" ∈ WALL := tb1 (List.mem_of_getElem? (i := 237) rfl) rfl
theorem wl_4_151 : Cond.methodLink RX2 90 yX1_thing ∈ WALL := tb4 (List.mem_of_getElem? (i := 151) rfl) rfl
theorem wl_3_132 : Cond.instanceMethod yX1_thing ∈ WALL := tb3 (List.mem_of_getElem? (i := 132) rfl) rfl
theorem wl_3_133 : Cond.selects RX1 yX1_thing yX1_thing ∈ WALL := tb3 (List.mem_of_getElem? (i := 133) rfl) rfl
theorem wl_3_134 : Cond.code yX1_thing cX1_thing 3 (some (.object "NarrowRings$Thing")) ∈ WALL := tb3 (List.mem_of_getElem? (i := 134) rfl) rfl
theorem hd_X2_thingOf : yX2_thingOf.cls ≠ "java/lang/invoke/MethodHandle" ∧ yX2_thingOf.cls ≠ "java/lang/invoke/VarHandle" ∧ (parseMethodDescriptor yX2_thingOf.desc).map (fun d => d.parameters.length) = some 1 := by decide +kernel
set_option maxRecDepth 100000 in
set_option maxHeartbeats 4000000 in
theorem M_X2_thingOf (l : Launch) : MtS l yX2_thingOf (Cond.code yX2_thingOf cX2_thingOf 3 (some (.object "NarrowRings$Thing")) :: WALL) { frames := 1, cells := 0, slots := 0, locals := 22 } [12, 0] (some 16) T_X2_thingOf := by
  refine MtS.mk (B := E_X2_thingOf) (by decide +kernel) (by decide) (fun _ _ _ hh => hh) ?_
  intro X Q e1 e2 e3 hC hN hT
  subst e1
  have hC : CF X cX2_thingOf RX2 WALL := hC
  refine (?_ : SdS X 0 [(0, 12), (1, 0)] [] (E_X2_thingOf Q))
  unfold E_X2_thingOf
  refine su_aload_n hC 12 dX2_thingOf_0 rfl (by decide) (by decide) (?_ : SdS X 1 [(0, 12), (1, 0)] [12] _)
  refine su_getR hC (ci := 2) (j := 2) (C := RX2) (T := TX2) (N := 10) rfl rfl (by decide) in_X2 wl_2_40 rfl dX2_thingOf_1 (?_ : SdS X 4 [(0, 12), (1, 0)] [200] _)
  refine su_iconst hC dX2_thingOf_4 ⟨by decide, by decide⟩ (?_ : SdS X 5 [(0, 12), (1, 0)] [0, 200] _)
  refine su_aaload (e := 100) hC (List.mem_of_getElem? (i := 7) rfl) rfl rfl rfl dX2_thingOf_5 (?_ : SdS X 6 [(0, 12), (1, 0)] [100] _)
  refine su_iload_n hC dX2_thingOf_6 rfl (by decide) (?_ : SdS X 7 [(0, 12), (1, 0)] [0, 100] _)
  refine su_iaload hC dX2_thingOf_7 (?_ : SdS X 8 [(0, 12), (1, 0)] [0] _)
  refine su_istore_n (Γ' := [(0, 12), (1, 0), (2, 0)]) hC dX2_thingOf_8 rfl (by rw [e2]; decide) (by decide) (?_ : SdS X 9 [(0, 12), (1, 0), (2, 0)] [] _)
  refine su_aload_n hC 12 dX2_thingOf_9 rfl (by decide) (by decide) (?_ : SdS X 10 [(0, 12), (1, 0), (2, 0)] [12] _)
  refine su_getR hC (ci := 2) (j := 8) (C := RX2) (T := TX2) (N := 10) rfl rfl (by decide) in_X2 wl_2_51 rfl dX2_thingOf_10 (?_ : SdS X 13 [(0, 12), (1, 0), (2, 0)] [11] _)
  refine su_aload_n hC 12 dX2_thingOf_13 rfl (by decide) (by decide) (?_ : SdS X 14 [(0, 12), (1, 0), (2, 0)] [12, 11] _)
  refine su_getR hC (ci := 2) (j := 8) (C := RX2) (T := TX2) (N := 10) rfl rfl (by decide) in_X2 wl_2_51 rfl dX2_thingOf_14 (?_ : SdS X 17 [(0, 12), (1, 0), (2, 0)] [11, 11] _)
  refine su_getR hC (ci := 1) (j := 9) (C := RX1) (T := TX1) (N := 12) rfl rfl (by decide) in_X1 wl_1_113 rfl dX2_thingOf_17 (?_ : SdS X 20 [(0, 12), (1, 0), (2, 0)] [200, 11] _)
  refine su_iload_n hC dX2_thingOf_20 rfl (by decide) (?_ : SdS X 21 [(0, 12), (1, 0), (2, 0)] [0, 200, 11] _)
  refine su_aaload (e := 100) hC (List.mem_of_getElem? (i := 7) rfl) rfl rfl rfl dX2_thingOf_21 (?_ : SdS X 22 [(0, 12), (1, 0), (2, 0)] [100, 11] _)
  refine su_iconst hC dX2_thingOf_22 ⟨by decide, by decide⟩ (?_ : SdS X 23 [(0, 12), (1, 0), (2, 0)] [0, 100, 11] _)
  refine su_iaload hC dX2_thingOf_23 (?_ : SdS X 24 [(0, 12), (1, 0), (2, 0)] [0, 11] _)
  refine su_aload_n hC 12 dX2_thingOf_24 rfl (by decide) (by decide) (?_ : SdS X 25 [(0, 12), (1, 0), (2, 0)] [12, 0, 11] _)
  refine su_getR hC (ci := 2) (j := 9) (C := RX2) (T := TX2) (N := 10) rfl rfl (by decide) in_X2 wl_2_52 rfl dX2_thingOf_25 (?_ : SdS X 28 [(0, 12), (1, 0), (2, 0)] [117, 0, 11] _)
  refine su_iload_n hC dX2_thingOf_28 rfl (by decide) (?_ : SdS X 29 [(0, 12), (1, 0), (2, 0)] [0, 117, 0, 11] _)
  refine su_aaload (e := 17) hC (List.mem_of_getElem? (i := 6) rfl) rfl rfl rfl dX2_thingOf_29 (?_ : SdS X 30 [(0, 12), (1, 0), (2, 0)] [17, 0, 11] _)
  refine su_getF hC (ci := 7) (j := 1) (C := RX7) (T := TX7) (N := 7) rfl rfl (by decide) in_X7 wl_1_237 rfl dX2_thingOf_30 (?_ : SdS X 33 [(0, 12), (1, 0), (2, 0)] [0, 0, 11] _)
  refine su_inv0 (τ := []) (τr := [0, 0]) (ci := 1) (q := (RX1, TX1, 12)) hC WG (M_X1_thing _) rfl rfl rfl rfl  rfl rfl wl_4_151 wl_3_132 wl_3_133 wl_1_2 wl_3_134 hd_X1_thing (by rw [e3]; decide) (by decide) dX2_thingOf_33 (?_ : SdS X 36 [(0, 12), (1, 0), (2, 0)] [16] _)
  exact su_areturn hC (by decide) hT dX2_thingOf_36
theorem wl_4_147 : Cond.methodLink RX2 123 yX2_thingOf ∈ WALL := tb4 (List.mem_of_getElem? (i := 147) rfl) rfl
theorem wl_4_149 : Cond.instanceMethod yX2_thingOf ∈ WALL := tb4 (List.mem_of_getElem? (i := 149) rfl) rfl
theorem wp_53 : Cond.selects RX2 yX2_thingOf yX2_thingOf ∈ WALL := tbS (List.mem_of_getElem? (i := 53) rfl)
theorem wl_4_150 : Cond.code yX2_thingOf cX2_thingOf 3 (some (.object "NarrowRings$Thing")) ∈ WALL := tb4 (List.mem_of_getElem? (i := 150) rfl) rfl
theorem wl_4_152 : Cond.methodLink RX2 127 yX1_loadingHours ∈ WALL := tb4 (List.mem_of_getElem? (i := 152) rfl) rfl
theorem hd_X2_loadOver : yX2_loadOver.cls ≠ "java/lang/invoke/MethodHandle" ∧ yX2_loadOver.cls ≠ "java/lang/invoke/VarHandle" ∧ (parseMethodDescriptor yX2_loadOver.desc).map (fun d => d.parameters.length) = some 2 := by decide +kernel
set_option maxRecDepth 100000 in
set_option maxHeartbeats 4000000 in
theorem M_X2_loadOver (l : Launch) : MtS l yX2_loadOver (Cond.code yX2_loadOver cX2_loadOver 4 none :: WALL) { frames := 2, cells := 0, slots := 0, locals := 44 } [12, 0, 0] none T_X2_loadOver := by
  refine MtS.mk (B := E_X2_loadOver) (by decide +kernel) (by decide) (fun _ _ _ hh => hh) ?_
  intro X Q e1 e2 e3 hC hN hT
  subst e1
  have hC : CF X cX2_loadOver RX2 WALL := hC
  refine (?_ : SdS X 0 [(0, 12), (1, 0), (2, 0)] [] (E_X2_loadOver Q))
  unfold E_X2_loadOver
  refine su_aload_n hC 12 dX2_loadOver_0 rfl (by decide) (by decide) (?_ : SdS X 1 [(0, 12), (1, 0), (2, 0)] [12] _)
  refine su_getR hC (ci := 2) (j := 8) (C := RX2) (T := TX2) (N := 10) rfl rfl (by decide) in_X2 wl_2_51 rfl dX2_loadOver_1 (?_ : SdS X 4 [(0, 12), (1, 0), (2, 0)] [11] _)
  refine su_aload_n hC 12 dX2_loadOver_4 rfl (by decide) (by decide) (?_ : SdS X 5 [(0, 12), (1, 0), (2, 0)] [12, 11] _)
  refine su_iload_n hC dX2_loadOver_5 rfl (by decide) (?_ : SdS X 6 [(0, 12), (1, 0), (2, 0)] [0, 12, 11] _)
  refine su_inv0 (τ := [11]) (τr := [0]) (ci := 2) (q := (RX2, TX2, 10)) hC WG (M_X2_thingOf _) rfl rfl rfl rfl  rfl rfl wl_4_147 wl_4_149 wp_53 wl_1_7 wl_4_150 hd_X2_thingOf (by rw [e3]; decide) (by decide) dX2_loadOver_6 (?_ : SdS X 9 [(0, 12), (1, 0), (2, 0)] [16, 11] _)
  refine su_iload_n hC dX2_loadOver_9 rfl (by decide) (?_ : SdS X 10 [(0, 12), (1, 0), (2, 0)] [0, 16, 11] _)
  refine su_inv0 (τ := []) (τr := [16, 0]) (ci := 1) (q := (RX1, TX1, 12)) hC WG (M_X1_loadingHours _) rfl rfl rfl rfl  rfl rfl wl_4_152 wl_3_183 wl_3_184 wl_1_2 wl_3_185 hd_X1_loadingHours (by rw [e3]; decide) (by decide) dX2_loadOver_10 (?_ : SdS X 13 [(0, 12), (1, 0), (2, 0)] [0] _)
  refine su_istore_n (Γ' := [(0, 12), (1, 0), (2, 0), (3, 0)]) hC dX2_loadOver_13 rfl (by rw [e2]; decide) (by decide) (?_ : SdS X 14 [(0, 12), (1, 0), (2, 0), (3, 0)] [] _)
  refine su_aload_n hC 12 dX2_loadOver_14 rfl (by decide) (by decide) (?_ : SdS X 15 [(0, 12), (1, 0), (2, 0), (3, 0)] [12] _)
  refine su_getR hC (ci := 2) (j := 2) (C := RX2) (T := TX2) (N := 10) rfl rfl (by decide) in_X2 wl_2_40 rfl dX2_loadOver_15 (?_ : SdS X 18 [(0, 12), (1, 0), (2, 0), (3, 0)] [200] _)
  refine su_iconst hC dX2_loadOver_18 ⟨by decide, by decide⟩ (?_ : SdS X 19 [(0, 12), (1, 0), (2, 0), (3, 0)] [0, 200] _)
  refine su_aaload (e := 100) hC (List.mem_of_getElem? (i := 7) rfl) rfl rfl rfl dX2_loadOver_19 (?_ : SdS X 20 [(0, 12), (1, 0), (2, 0), (3, 0)] [100] _)
  refine su_iload_n hC dX2_loadOver_20 rfl (by decide) (?_ : SdS X 21 [(0, 12), (1, 0), (2, 0), (3, 0)] [0, 100] _)
  refine su_iconst hC dX2_loadOver_21 ⟨by decide, by decide⟩ (?_ : SdS X 22 [(0, 12), (1, 0), (2, 0), (3, 0)] [0, 0, 100] _)
  refine su_iastore hC dX2_loadOver_22 (?_ : SdS X 23 [(0, 12), (1, 0), (2, 0), (3, 0)] [] _)
  refine su_aload_n hC 12 dX2_loadOver_23 rfl (by decide) (by decide) (?_ : SdS X 24 [(0, 12), (1, 0), (2, 0), (3, 0)] [12] _)
  refine su_getR hC (ci := 2) (j := 2) (C := RX2) (T := TX2) (N := 10) rfl rfl (by decide) in_X2 wl_2_40 rfl dX2_loadOver_24 (?_ : SdS X 27 [(0, 12), (1, 0), (2, 0), (3, 0)] [200] _)
  refine su_iconst hC dX2_loadOver_27 ⟨by decide, by decide⟩ (?_ : SdS X 28 [(0, 12), (1, 0), (2, 0), (3, 0)] [0, 200] _)
  refine su_aaload (e := 100) hC (List.mem_of_getElem? (i := 7) rfl) rfl rfl rfl dX2_loadOver_28 (?_ : SdS X 29 [(0, 12), (1, 0), (2, 0), (3, 0)] [100] _)
  refine su_iload_n hC dX2_loadOver_29 rfl (by decide) (?_ : SdS X 30 [(0, 12), (1, 0), (2, 0), (3, 0)] [0, 100] _)
  refine su_iload_n hC dX2_loadOver_30 rfl (by decide) (?_ : SdS X 31 [(0, 12), (1, 0), (2, 0), (3, 0)] [0, 0, 100] _)
  refine su_iastore hC dX2_loadOver_31 (?_ : SdS X 32 [(0, 12), (1, 0), (2, 0), (3, 0)] [] _)
  refine su_aload_n hC 12 dX2_loadOver_32 rfl (by decide) (by decide) (?_ : SdS X 33 [(0, 12), (1, 0), (2, 0), (3, 0)] [12] _)
  refine su_getR hC (ci := 2) (j := 4) (C := RX2) (T := TX2) (N := 10) rfl rfl (by decide) in_X2 wl_2_44 rfl dX2_loadOver_33 (?_ : SdS X 36 [(0, 12), (1, 0), (2, 0), (3, 0)] [100] _)
  refine su_iload_n hC dX2_loadOver_36 rfl (by decide) (?_ : SdS X 37 [(0, 12), (1, 0), (2, 0), (3, 0)] [0, 100] _)
  refine su_iload_n hC dX2_loadOver_37 rfl (by decide) (?_ : SdS X 38 [(0, 12), (1, 0), (2, 0), (3, 0)] [0, 0, 100] _)
  refine su_iastore hC dX2_loadOver_38 (?_ : SdS X 39 [(0, 12), (1, 0), (2, 0), (3, 0)] [] _)
  refine su_aload_n hC 12 dX2_loadOver_39 rfl (by decide) (by decide) (?_ : SdS X 40 [(0, 12), (1, 0), (2, 0), (3, 0)] [12] _)
  refine su_getR hC (ci := 2) (j := 5) (C := RX2) (T := TX2) (N := 10) rfl rfl (by decide) in_X2 wl_2_46 rfl dX2_loadOver_40 (?_ : SdS X 43 [(0, 12), (1, 0), (2, 0), (3, 0)] [100] _)
  refine su_iload_n hC dX2_loadOver_43 rfl (by decide) (?_ : SdS X 44 [(0, 12), (1, 0), (2, 0), (3, 0)] [0, 100] _)
  refine su_dup2 hC (by decide) (by decide) dX2_loadOver_44 (?_ : SdS X 45 [(0, 12), (1, 0), (2, 0), (3, 0)] [0, 100, 0, 100] _)
  refine su_iaload hC dX2_loadOver_45 (?_ : SdS X 46 [(0, 12), (1, 0), (2, 0), (3, 0)] [0, 0, 100] _)
  refine su_aload_n hC 12 dX2_loadOver_46 rfl (by decide) (by decide) (?_ : SdS X 47 [(0, 12), (1, 0), (2, 0), (3, 0)] [12, 0, 0, 100] _)
  refine su_getR hC (ci := 2) (j := 8) (C := RX2) (T := TX2) (N := 10) rfl rfl (by decide) in_X2 wl_2_51 rfl dX2_loadOver_47 (?_ : SdS X 50 [(0, 12), (1, 0), (2, 0), (3, 0)] [11, 0, 0, 100] _)
  refine su_getR hC (ci := 1) (j := 6) (C := RX1) (T := TX1) (N := 12) rfl rfl (by decide) in_X1 wl_1_106 rfl dX2_loadOver_50 (?_ : SdS X 53 [(0, 12), (1, 0), (2, 0), (3, 0)] [200, 0, 0, 100] _)
  refine su_iload_n hC dX2_loadOver_53 rfl (by decide) (?_ : SdS X 54 [(0, 12), (1, 0), (2, 0), (3, 0)] [0, 200, 0, 0, 100] _)
  refine su_aaload (e := 100) hC (List.mem_of_getElem? (i := 7) rfl) rfl rfl rfl dX2_loadOver_54 (?_ : SdS X 55 [(0, 12), (1, 0), (2, 0), (3, 0)] [100, 0, 0, 100] _)
  refine su_iconst hC dX2_loadOver_55 ⟨by decide, by decide⟩ (?_ : SdS X 56 [(0, 12), (1, 0), (2, 0), (3, 0)] [0, 100, 0, 0, 100] _)
  refine su_iaload hC dX2_loadOver_56 (?_ : SdS X 57 [(0, 12), (1, 0), (2, 0), (3, 0)] [0, 0, 0, 100] _)
  refine su_iadd hC dX2_loadOver_57 (?_ : SdS X 58 [(0, 12), (1, 0), (2, 0), (3, 0)] [0, 0, 100] _)
  refine su_iastore hC dX2_loadOver_58 (?_ : SdS X 59 [(0, 12), (1, 0), (2, 0), (3, 0)] [] _)
  refine su_aload_n hC 12 dX2_loadOver_59 rfl (by decide) (by decide) (?_ : SdS X 60 [(0, 12), (1, 0), (2, 0), (3, 0)] [12] _)
  refine su_getR hC (ci := 2) (j := 6) (C := RX2) (T := TX2) (N := 10) rfl rfl (by decide) in_X2 wl_2_48 rfl dX2_loadOver_60 (?_ : SdS X 63 [(0, 12), (1, 0), (2, 0), (3, 0)] [100] _)
  refine su_iload_n hC dX2_loadOver_63 rfl (by decide) (?_ : SdS X 64 [(0, 12), (1, 0), (2, 0), (3, 0)] [0, 100] _)
  refine su_dup2 hC (by decide) (by decide) dX2_loadOver_64 (?_ : SdS X 65 [(0, 12), (1, 0), (2, 0), (3, 0)] [0, 100, 0, 100] _)
  refine su_iaload hC dX2_loadOver_65 (?_ : SdS X 66 [(0, 12), (1, 0), (2, 0), (3, 0)] [0, 0, 100] _)
  refine su_iload_n hC dX2_loadOver_66 rfl (by decide) (?_ : SdS X 67 [(0, 12), (1, 0), (2, 0), (3, 0)] [0, 0, 0, 100] _)
  refine su_aload_n hC 12 dX2_loadOver_67 rfl (by decide) (by decide) (?_ : SdS X 68 [(0, 12), (1, 0), (2, 0), (3, 0)] [12, 0, 0, 0, 100] _)
  refine su_getR hC (ci := 2) (j := 8) (C := RX2) (T := TX2) (N := 10) rfl rfl (by decide) in_X2 wl_2_51 rfl dX2_loadOver_68 (?_ : SdS X 71 [(0, 12), (1, 0), (2, 0), (3, 0)] [11, 0, 0, 0, 100] _)
  refine su_getR hC (ci := 1) (j := 6) (C := RX1) (T := TX1) (N := 12) rfl rfl (by decide) in_X1 wl_1_106 rfl dX2_loadOver_71 (?_ : SdS X 74 [(0, 12), (1, 0), (2, 0), (3, 0)] [200, 0, 0, 0, 100] _)
  refine su_iload_n hC dX2_loadOver_74 rfl (by decide) (?_ : SdS X 75 [(0, 12), (1, 0), (2, 0), (3, 0)] [0, 200, 0, 0, 0, 100] _)
  refine su_aaload (e := 100) hC (List.mem_of_getElem? (i := 7) rfl) rfl rfl rfl dX2_loadOver_75 (?_ : SdS X 76 [(0, 12), (1, 0), (2, 0), (3, 0)] [100, 0, 0, 0, 100] _)
  refine su_iconst hC dX2_loadOver_76 ⟨by decide, by decide⟩ (?_ : SdS X 77 [(0, 12), (1, 0), (2, 0), (3, 0)] [0, 100, 0, 0, 0, 100] _)
  refine su_iaload hC dX2_loadOver_77 (?_ : SdS X 78 [(0, 12), (1, 0), (2, 0), (3, 0)] [0, 0, 0, 0, 100] _)
  refine su_imul hC dX2_loadOver_78 (?_ : SdS X 79 [(0, 12), (1, 0), (2, 0), (3, 0)] [0, 0, 0, 100] _)
  refine su_iadd hC dX2_loadOver_79 (?_ : SdS X 80 [(0, 12), (1, 0), (2, 0), (3, 0)] [0, 0, 100] _)
  refine su_iastore hC dX2_loadOver_80 (?_ : SdS X 81 [(0, 12), (1, 0), (2, 0), (3, 0)] [] _)
  exact su_return hC hT dX2_loadOver_81
theorem wl_2_50 : Cond.fieldLink RX2 39 "NarrowRings$Day" "foremost" "[I" ∈ WALL := tb2 (List.mem_of_getElem? (i := 50) rfl) rfl
theorem wl_1_85 : Cond.fieldLink RX2 118 "NarrowRings$City" "gates" "I" ∈ WALL := tb1 (List.mem_of_getElem? (i := 85) rfl) rfl
theorem wl_4_143 : Cond.methodLink RX2 119 yX2_loadOver ∈ WALL := tb4 (List.mem_of_getElem? (i := 143) rfl) rfl
theorem wl_4_145 : Cond.instanceMethod yX2_loadOver ∈ WALL := tb4 (List.mem_of_getElem? (i := 145) rfl) rfl
theorem wp_52 : Cond.selects RX2 yX2_loadOver yX2_loadOver ∈ WALL := tbS (List.mem_of_getElem? (i := 52) rfl)
theorem wl_4_146 : Cond.code yX2_loadOver cX2_loadOver 4 none ∈ WALL := tb4 (List.mem_of_getElem? (i := 146) rfl) rfl
theorem hd_X2_serveGates : yX2_serveGates.cls ≠ "java/lang/invoke/MethodHandle" ∧ yX2_serveGates.cls ≠ "java/lang/invoke/VarHandle" ∧ (parseMethodDescriptor yX2_serveGates.desc).map (fun d => d.parameters.length) = some 0 := by decide +kernel
set_option maxRecDepth 100000 in
set_option maxHeartbeats 4000000 in
theorem M_X2_serveGates (l : Launch) : MtS l yX2_serveGates (Cond.code yX2_serveGates cX2_serveGates 3 none :: WALL) { frames := 3, cells := 0, slots := 0, locals := 67 } [12] none T_X2_serveGates := by
  refine MtS.mk (B := E_X2_serveGates) (by decide +kernel) (by decide) (fun _ _ _ hh => hh) ?_
  intro X Q e1 e2 e3 hC hN hT
  subst e1
  have hC : CF X cX2_serveGates RX2 WALL := hC
  have S_139 : ∀ (k96 : xK), SdS X 96 [(0, 12), (1, 0)] [] k96 → SdS X 139 [(0, 12), (1, 0)] [] (B_X2_serveGates_139 Q k96) := by
    intro k96 h96
    unfold B_X2_serveGates_139
    refine su_iinc (Γ' := [(0, 12), (1, 0)]) hC dX2_serveGates_139 (by decide) (by rw [e2]; decide) (by decide) (?_ : SdS X 142 [(0, 12), (1, 0)] [] _)
    refine su_goto (tgt := 96) hC dX2_serveGates_142 rfl (?_ : SdS X 96 [(0, 12), (1, 0)] [] _)
    exact SdS.weak (by decide) h96
  have S_96 : SdS X 96 [(0, 12), (1, 0)] [] (L_X2_serveGates_96 Q) := by
    unfold L_X2_serveGates_96
    refine SdS.loop (fun k96 h96 => ?_)
    refine su_iload_n hC dX2_serveGates_96 rfl (by decide) (?_ : SdS X 97 [(0, 12), (1, 0)] [0] _)
    refine su_aload_n hC 12 dX2_serveGates_97 rfl (by decide) (by decide) (?_ : SdS X 98 [(0, 12), (1, 0)] [12, 0] _)
    refine su_getR hC (ci := 2) (j := 8) (C := RX2) (T := TX2) (N := 10) rfl rfl (by decide) in_X2 wl_2_51 rfl dX2_serveGates_98 (?_ : SdS X 101 [(0, 12), (1, 0)] [11, 0] _)
    refine su_getF hC (ci := 1) (j := 1) (C := RX1) (T := TX1) (N := 12) rfl rfl (by decide) in_X1 wl_1_85 rfl dX2_serveGates_101 (?_ : SdS X 104 [(0, 12), (1, 0)] [0, 0] _)
    refine su_icmp_ge (tgt := 145) hC dX2_serveGates_104 rfl (?_ : SdS X 145 [(0, 12), (1, 0)] [] _) (?_ : SdS X 107 [(0, 12), (1, 0)] [] _)
    · exact su_return hC hT dX2_serveGates_145
    · refine su_aload_n hC 12 dX2_serveGates_107 rfl (by decide) (by decide) (?_ : SdS X 108 [(0, 12), (1, 0)] [12] _)
      refine su_getR hC (ci := 2) (j := 7) (C := RX2) (T := TX2) (N := 10) rfl rfl (by decide) in_X2 wl_2_50 rfl dX2_serveGates_108 (?_ : SdS X 111 [(0, 12), (1, 0)] [100] _)
      refine su_iload_n hC dX2_serveGates_111 rfl (by decide) (?_ : SdS X 112 [(0, 12), (1, 0)] [0, 100] _)
      refine su_iaload hC dX2_serveGates_112 (?_ : SdS X 113 [(0, 12), (1, 0)] [0] _)
      refine su_iconst hC dX2_serveGates_113 ⟨by decide, by decide⟩ (?_ : SdS X 114 [(0, 12), (1, 0)] [0, 0] _)
      refine su_icmp_eq (tgt := 139) hC dX2_serveGates_114 rfl (?_ : SdS X 139 [(0, 12), (1, 0)] [] _) (?_ : SdS X 117 [(0, 12), (1, 0)] [] _)
      · exact SdS.weak (by decide) (S_139 k96 h96)
      · refine su_aload_n hC 12 dX2_serveGates_117 rfl (by decide) (by decide) (?_ : SdS X 118 [(0, 12), (1, 0)] [12] _)
        refine su_getR hC (ci := 2) (j := 4) (C := RX2) (T := TX2) (N := 10) rfl rfl (by decide) in_X2 wl_2_44 rfl dX2_serveGates_118 (?_ : SdS X 121 [(0, 12), (1, 0)] [100] _)
        refine su_iload_n hC dX2_serveGates_121 rfl (by decide) (?_ : SdS X 122 [(0, 12), (1, 0)] [0, 100] _)
        refine su_iaload hC dX2_serveGates_122 (?_ : SdS X 123 [(0, 12), (1, 0)] [0] _)
        refine su_bipush hC dX2_serveGates_123 (by decide) (?_ : SdS X 125 [(0, 12), (1, 0)] [0, 0] _)
        refine su_icmp_ne (tgt := 139) hC dX2_serveGates_125 rfl (?_ : SdS X 139 [(0, 12), (1, 0)] [] _) (?_ : SdS X 128 [(0, 12), (1, 0)] [] _)
        · exact SdS.weak (by decide) (S_139 k96 h96)
        · refine su_aload_n hC 12 dX2_serveGates_128 rfl (by decide) (by decide) (?_ : SdS X 129 [(0, 12), (1, 0)] [12] _)
          refine su_aload_n hC 12 dX2_serveGates_129 rfl (by decide) (by decide) (?_ : SdS X 130 [(0, 12), (1, 0)] [12, 12] _)
          refine su_getR hC (ci := 2) (j := 7) (C := RX2) (T := TX2) (N := 10) rfl rfl (by decide) in_X2 wl_2_50 rfl dX2_serveGates_130 (?_ : SdS X 133 [(0, 12), (1, 0)] [100, 12] _)
          refine su_iload_n hC dX2_serveGates_133 rfl (by decide) (?_ : SdS X 134 [(0, 12), (1, 0)] [0, 100, 12] _)
          refine su_iaload hC dX2_serveGates_134 (?_ : SdS X 135 [(0, 12), (1, 0)] [0, 12] _)
          refine su_iload_n hC dX2_serveGates_135 rfl (by decide) (?_ : SdS X 136 [(0, 12), (1, 0)] [0, 0, 12] _)
          refine su_inv0v (τ := []) (τr := [0, 0]) (ci := 2) (q := (RX2, TX2, 10)) hC WG (M_X2_loadOver _) rfl rfl rfl rfl  rfl rfl wl_4_143 wl_4_145 wp_52 wl_1_7 wl_4_146 hd_X2_loadOver (by rw [e3]; decide) (by decide) dX2_serveGates_136 (?_ : SdS X 139 [(0, 12), (1, 0)] [] _)
          exact SdS.weak (by decide) (S_139 k96 h96)
  have S_88 : ∀ (k10 : xK), SdS X 10 [(0, 12), (1, 0)] [] k10 → SdS X 88 [(0, 12), (1, 0), (2, 0)] [] (B_X2_serveGates_88 Q k10) := by
    intro k10 h10
    unfold B_X2_serveGates_88
    refine su_iinc (Γ' := [(0, 12), (1, 0), (2, 0)]) hC dX2_serveGates_88 (by decide) (by rw [e2]; decide) (by decide) (?_ : SdS X 91 [(0, 12), (1, 0), (2, 0)] [] _)
    refine su_goto (tgt := 10) hC dX2_serveGates_91 rfl (?_ : SdS X 10 [(0, 12), (1, 0), (2, 0)] [] _)
    exact SdS.weak (by decide) h10
  have S_81 : ∀ (k10 : xK), SdS X 10 [(0, 12), (1, 0)] [] k10 → SdS X 81 [(0, 12), (1, 0), (2, 0)] [] (B_X2_serveGates_81 Q k10) := by
    intro k10 h10
    unfold B_X2_serveGates_81
    refine su_aload_n hC 12 dX2_serveGates_81 rfl (by decide) (by decide) (?_ : SdS X 82 [(0, 12), (1, 0), (2, 0)] [12] _)
    refine su_getR hC (ci := 2) (j := 7) (C := RX2) (T := TX2) (N := 10) rfl rfl (by decide) in_X2 wl_2_50 rfl dX2_serveGates_82 (?_ : SdS X 85 [(0, 12), (1, 0), (2, 0)] [100] _)
    refine su_iload_n hC dX2_serveGates_85 rfl (by decide) (?_ : SdS X 86 [(0, 12), (1, 0), (2, 0)] [0, 100] _)
    refine su_iload_n hC dX2_serveGates_86 rfl (by decide) (?_ : SdS X 87 [(0, 12), (1, 0), (2, 0)] [0, 0, 100] _)
    refine su_iastore hC dX2_serveGates_87 (?_ : SdS X 88 [(0, 12), (1, 0), (2, 0)] [] _)
    exact SdS.weak (by decide) (S_88 k10 h10)
  have S_39 : ∀ (k10 : xK), SdS X 10 [(0, 12), (1, 0)] [] k10 → SdS X 39 [(0, 12), (1, 0)] [0] (B_X2_serveGates_39 Q k10) := by
    intro k10 h10
    unfold B_X2_serveGates_39
    refine su_istore_n (Γ' := [(0, 12), (1, 0), (2, 0)]) hC dX2_serveGates_39 rfl (by rw [e2]; decide) (by decide) (?_ : SdS X 40 [(0, 12), (1, 0), (2, 0)] [] _)
    refine su_iload_n hC dX2_serveGates_40 rfl (by decide) (?_ : SdS X 41 [(0, 12), (1, 0), (2, 0)] [0] _)
    refine su_iconst hC dX2_serveGates_41 ⟨by decide, by decide⟩ (?_ : SdS X 42 [(0, 12), (1, 0), (2, 0)] [0, 0] _)
    refine su_icmp_eq (tgt := 88) hC dX2_serveGates_42 rfl (?_ : SdS X 88 [(0, 12), (1, 0), (2, 0)] [] _) (?_ : SdS X 45 [(0, 12), (1, 0), (2, 0)] [] _)
    · exact SdS.weak (by decide) (S_88 k10 h10)
    · refine su_aload_n hC 12 dX2_serveGates_45 rfl (by decide) (by decide) (?_ : SdS X 46 [(0, 12), (1, 0), (2, 0)] [12] _)
      refine su_getR hC (ci := 2) (j := 7) (C := RX2) (T := TX2) (N := 10) rfl rfl (by decide) in_X2 wl_2_50 rfl dX2_serveGates_46 (?_ : SdS X 49 [(0, 12), (1, 0), (2, 0)] [100] _)
      refine su_iload_n hC dX2_serveGates_49 rfl (by decide) (?_ : SdS X 50 [(0, 12), (1, 0), (2, 0)] [0, 100] _)
      refine su_iaload hC dX2_serveGates_50 (?_ : SdS X 51 [(0, 12), (1, 0), (2, 0)] [0] _)
      refine su_iconst hC dX2_serveGates_51 ⟨by decide, by decide⟩ (?_ : SdS X 52 [(0, 12), (1, 0), (2, 0)] [0, 0] _)
      refine su_icmp_eq (tgt := 81) hC dX2_serveGates_52 rfl (?_ : SdS X 81 [(0, 12), (1, 0), (2, 0)] [] _) (?_ : SdS X 55 [(0, 12), (1, 0), (2, 0)] [] _)
      · exact SdS.weak (by decide) (S_81 k10 h10)
      · refine su_aload_n hC 12 dX2_serveGates_55 rfl (by decide) (by decide) (?_ : SdS X 56 [(0, 12), (1, 0), (2, 0)] [12] _)
        refine su_getR hC (ci := 2) (j := 2) (C := RX2) (T := TX2) (N := 10) rfl rfl (by decide) in_X2 wl_2_40 rfl dX2_serveGates_56 (?_ : SdS X 59 [(0, 12), (1, 0), (2, 0)] [200] _)
        refine su_bipush hC dX2_serveGates_59 (by decide) (?_ : SdS X 61 [(0, 12), (1, 0), (2, 0)] [0, 200] _)
        refine su_aaload (e := 100) hC (List.mem_of_getElem? (i := 7) rfl) rfl rfl rfl dX2_serveGates_61 (?_ : SdS X 62 [(0, 12), (1, 0), (2, 0)] [100] _)
        refine su_iload_n hC dX2_serveGates_62 rfl (by decide) (?_ : SdS X 63 [(0, 12), (1, 0), (2, 0)] [0, 100] _)
        refine su_iaload hC dX2_serveGates_63 (?_ : SdS X 64 [(0, 12), (1, 0), (2, 0)] [0] _)
        refine su_aload_n hC 12 dX2_serveGates_64 rfl (by decide) (by decide) (?_ : SdS X 65 [(0, 12), (1, 0), (2, 0)] [12, 0] _)
        refine su_getR hC (ci := 2) (j := 2) (C := RX2) (T := TX2) (N := 10) rfl rfl (by decide) in_X2 wl_2_40 rfl dX2_serveGates_65 (?_ : SdS X 68 [(0, 12), (1, 0), (2, 0)] [200, 0] _)
        refine su_bipush hC dX2_serveGates_68 (by decide) (?_ : SdS X 70 [(0, 12), (1, 0), (2, 0)] [0, 200, 0] _)
        refine su_aaload (e := 100) hC (List.mem_of_getElem? (i := 7) rfl) rfl rfl rfl dX2_serveGates_70 (?_ : SdS X 71 [(0, 12), (1, 0), (2, 0)] [100, 0] _)
        refine su_aload_n hC 12 dX2_serveGates_71 rfl (by decide) (by decide) (?_ : SdS X 72 [(0, 12), (1, 0), (2, 0)] [12, 100, 0] _)
        refine su_getR hC (ci := 2) (j := 7) (C := RX2) (T := TX2) (N := 10) rfl rfl (by decide) in_X2 wl_2_50 rfl dX2_serveGates_72 (?_ : SdS X 75 [(0, 12), (1, 0), (2, 0)] [100, 100, 0] _)
        refine su_iload_n hC dX2_serveGates_75 rfl (by decide) (?_ : SdS X 76 [(0, 12), (1, 0), (2, 0)] [0, 100, 100, 0] _)
        refine su_iaload hC dX2_serveGates_76 (?_ : SdS X 77 [(0, 12), (1, 0), (2, 0)] [0, 100, 0] _)
        refine su_iaload hC dX2_serveGates_77 (?_ : SdS X 78 [(0, 12), (1, 0), (2, 0)] [0, 0] _)
        refine su_icmp_ge (tgt := 88) hC dX2_serveGates_78 rfl (?_ : SdS X 88 [(0, 12), (1, 0), (2, 0)] [] _) (?_ : SdS X 81 [(0, 12), (1, 0), (2, 0)] [] _)
        · exact SdS.weak (by decide) (S_88 k10 h10)
        · exact SdS.weak (by decide) (S_81 k10 h10)
  have S_10 : SdS X 10 [(0, 12), (1, 0)] [] (L_X2_serveGates_10 Q) := by
    unfold L_X2_serveGates_10
    refine SdS.loop (fun k10 h10 => ?_)
    refine su_iload_n hC dX2_serveGates_10 rfl (by decide) (?_ : SdS X 11 [(0, 12), (1, 0)] [0] _)
    refine su_aload_n hC 12 dX2_serveGates_11 rfl (by decide) (by decide) (?_ : SdS X 12 [(0, 12), (1, 0)] [12, 0] _)
    refine su_getF hC (ci := 2) (j := 1) (C := RX2) (T := TX2) (N := 10) rfl rfl (by decide) in_X2 wl_2_38 rfl dX2_serveGates_12 (?_ : SdS X 15 [(0, 12), (1, 0)] [0, 0] _)
    refine su_icmp_ge (tgt := 94) hC dX2_serveGates_15 rfl (?_ : SdS X 94 [(0, 12), (1, 0)] [] _) (?_ : SdS X 18 [(0, 12), (1, 0)] [] _)
    · refine su_iconst hC dX2_serveGates_94 ⟨by decide, by decide⟩ (?_ : SdS X 95 [(0, 12), (1, 0)] [0] _)
      refine su_istore_n (Γ' := [(0, 12), (1, 0)]) hC dX2_serveGates_95 rfl (by rw [e2]; decide) (by decide) (?_ : SdS X 96 [(0, 12), (1, 0)] [] _)
      exact SdS.weak (by decide) (S_96)
    · refine su_aload_n hC 12 dX2_serveGates_18 rfl (by decide) (by decide) (?_ : SdS X 19 [(0, 12), (1, 0)] [12] _)
      refine su_getR hC (ci := 2) (j := 2) (C := RX2) (T := TX2) (N := 10) rfl rfl (by decide) in_X2 wl_2_40 rfl dX2_serveGates_19 (?_ : SdS X 22 [(0, 12), (1, 0)] [200] _)
      refine su_iconst hC dX2_serveGates_22 ⟨by decide, by decide⟩ (?_ : SdS X 23 [(0, 12), (1, 0)] [0, 200] _)
      refine su_aaload (e := 100) hC (List.mem_of_getElem? (i := 7) rfl) rfl rfl rfl dX2_serveGates_23 (?_ : SdS X 24 [(0, 12), (1, 0)] [100] _)
      refine su_iload_n hC dX2_serveGates_24 rfl (by decide) (?_ : SdS X 25 [(0, 12), (1, 0)] [0, 100] _)
      refine su_iaload hC dX2_serveGates_25 (?_ : SdS X 26 [(0, 12), (1, 0)] [0] _)
      refine su_iconst hC dX2_serveGates_26 ⟨by decide, by decide⟩ (?_ : SdS X 27 [(0, 12), (1, 0)] [0, 0] _)
      refine su_icmp_ne (tgt := 38) hC dX2_serveGates_27 rfl (?_ : SdS X 38 [(0, 12), (1, 0)] [] _) (?_ : SdS X 30 [(0, 12), (1, 0)] [] _)
      · refine su_iconst hC dX2_serveGates_38 ⟨by decide, by decide⟩ (?_ : SdS X 39 [(0, 12), (1, 0)] [0] _)
        exact SdS.weak (by decide) (S_39 k10 h10)
      · refine su_aload_n hC 12 dX2_serveGates_30 rfl (by decide) (by decide) (?_ : SdS X 31 [(0, 12), (1, 0)] [12] _)
        refine su_iload_n hC dX2_serveGates_31 rfl (by decide) (?_ : SdS X 32 [(0, 12), (1, 0)] [0, 12] _)
        refine su_inv0 (τ := []) (τr := [0]) (ci := 2) (q := (RX2, TX2, 10)) hC WG (M_X2_gateAhead _) rfl rfl rfl rfl  rfl rfl wl_4_127 wl_4_129 wp_48 wl_1_7 wl_4_130 hd_X2_gateAhead (by rw [e3]; decide) (by decide) dX2_serveGates_32 (?_ : SdS X 35 [(0, 12), (1, 0)] [0] _)
        refine su_goto (tgt := 39) hC dX2_serveGates_35 rfl (?_ : SdS X 39 [(0, 12), (1, 0)] [0] _)
        exact SdS.weak (by decide) (S_39 k10 h10)
  refine (?_ : SdS X 0 [(0, 12)] [] (E_X2_serveGates Q))
  unfold E_X2_serveGates
  refine su_aload_n hC 12 dX2_serveGates_0 rfl (by decide) (by decide) (?_ : SdS X 1 [(0, 12)] [12] _)
  refine su_getR hC (ci := 2) (j := 7) (C := RX2) (T := TX2) (N := 10) rfl rfl (by decide) in_X2 wl_2_50 rfl dX2_serveGates_1 (?_ : SdS X 4 [(0, 12)] [100] _)
  refine su_iconst hC dX2_serveGates_4 ⟨by decide, by decide⟩ (?_ : SdS X 5 [(0, 12)] [0, 100] _)
  refine su_invsv (τ := []) (τs := [100, 0]) hC false "" WG (M_J7_fill_53178 _) rfl rfl rfl rfl wl_3_220 wl_2_188 wl_1_11 wl_2_189 hd_J7_fill_53178 (by rw [e3]; decide) (by decide) dX2_serveGates_5 (?_ : SdS X 8 [(0, 12)] [] _)
  refine su_iconst hC dX2_serveGates_8 ⟨by decide, by decide⟩ (?_ : SdS X 9 [(0, 12)] [0] _)
  refine su_istore_n (Γ' := [(0, 12), (1, 0)]) hC dX2_serveGates_9 rfl (by rw [e2]; decide) (by decide) (?_ : SdS X 10 [(0, 12), (1, 0)] [] _)
  exact SdS.weak (by decide) (S_10)
theorem hd_X8_apart : yX8_apart.cls ≠ "java/lang/invoke/MethodHandle" ∧ yX8_apart.cls ≠ "java/lang/invoke/VarHandle" ∧ (parseMethodDescriptor yX8_apart.desc).map (fun d => d.parameters.length) = some 2 := by decide +kernel
set_option maxRecDepth 100000 in
set_option maxHeartbeats 4000000 in
theorem M_X8_apart (l : Launch) : MtS l yX8_apart (Cond.code yX8_apart cX8_apart 3 (some .int) :: WALL) { frames := 0, cells := 0, slots := 0, locals := 0 } [0, 0] (some 0) T_X8_apart := by
  refine MtS.mk (B := E_X8_apart) (by decide +kernel) (by decide) (fun _ _ _ hh => hh) ?_
  intro X Q e1 e2 e3 hC hN hT
  subst e1
  have hC : CF X cX8_apart RX8 WALL := hC
  have S_31 : SdS X 31 [(0, 0), (1, 0), (2, 0)] [0] (B_X8_apart_31 Q) := by
    unfold B_X8_apart_31
    exact su_ireturn hC hT dX8_apart_31
  have S_14 : SdS X 14 [(0, 0), (1, 0)] [0] (B_X8_apart_14 Q) := by
    unfold B_X8_apart_14
    refine su_istore_n (Γ' := [(0, 0), (1, 0), (2, 0)]) hC dX8_apart_14 rfl (by rw [e2]; decide) (by decide) (?_ : SdS X 15 [(0, 0), (1, 0), (2, 0)] [] _)
    refine su_iload_n hC dX8_apart_15 rfl (by decide) (?_ : SdS X 16 [(0, 0), (1, 0), (2, 0)] [0] _)
    refine su_bipush hC dX8_apart_16 (by decide) (?_ : SdS X 18 [(0, 0), (1, 0), (2, 0)] [0, 0] _)
    refine su_iload_n hC dX8_apart_18 rfl (by decide) (?_ : SdS X 19 [(0, 0), (1, 0), (2, 0)] [0, 0, 0] _)
    refine su_isub hC dX8_apart_19 (?_ : SdS X 20 [(0, 0), (1, 0), (2, 0)] [0, 0] _)
    refine su_icmp_gt (tgt := 27) hC dX8_apart_20 rfl (?_ : SdS X 27 [(0, 0), (1, 0), (2, 0)] [] _) (?_ : SdS X 23 [(0, 0), (1, 0), (2, 0)] [] _)
    · refine su_bipush hC dX8_apart_27 (by decide) (?_ : SdS X 29 [(0, 0), (1, 0), (2, 0)] [0] _)
      refine su_iload_n hC dX8_apart_29 rfl (by decide) (?_ : SdS X 30 [(0, 0), (1, 0), (2, 0)] [0, 0] _)
      refine su_isub hC dX8_apart_30 (?_ : SdS X 31 [(0, 0), (1, 0), (2, 0)] [0] _)
      exact SdS.weak (by decide) (S_31)
    · refine su_iload_n hC dX8_apart_23 rfl (by decide) (?_ : SdS X 24 [(0, 0), (1, 0), (2, 0)] [0] _)
      refine su_goto (tgt := 31) hC dX8_apart_24 rfl (?_ : SdS X 31 [(0, 0), (1, 0), (2, 0)] [0] _)
      exact SdS.weak (by decide) (S_31)
  refine (?_ : SdS X 0 [(0, 0), (1, 0)] [] (E_X8_apart Q))
  unfold E_X8_apart
  refine su_iload_n hC dX8_apart_0 rfl (by decide) (?_ : SdS X 1 [(0, 0), (1, 0)] [0] _)
  refine su_iload_n hC dX8_apart_1 rfl (by decide) (?_ : SdS X 2 [(0, 0), (1, 0)] [0, 0] _)
  refine su_icmp_ge (tgt := 11) hC dX8_apart_2 rfl (?_ : SdS X 11 [(0, 0), (1, 0)] [] _) (?_ : SdS X 5 [(0, 0), (1, 0)] [] _)
  · refine su_iload_n hC dX8_apart_11 rfl (by decide) (?_ : SdS X 12 [(0, 0), (1, 0)] [0] _)
    refine su_iload_n hC dX8_apart_12 rfl (by decide) (?_ : SdS X 13 [(0, 0), (1, 0)] [0, 0] _)
    refine su_isub hC dX8_apart_13 (?_ : SdS X 14 [(0, 0), (1, 0)] [0] _)
    exact SdS.weak (by decide) (S_14)
  · refine su_iload_n hC dX8_apart_5 rfl (by decide) (?_ : SdS X 6 [(0, 0), (1, 0)] [0] _)
    refine su_iload_n hC dX8_apart_6 rfl (by decide) (?_ : SdS X 7 [(0, 0), (1, 0)] [0, 0] _)
    refine su_isub hC dX8_apart_7 (?_ : SdS X 8 [(0, 0), (1, 0)] [0] _)
    refine su_goto (tgt := 14) hC dX8_apart_8 rfl (?_ : SdS X 14 [(0, 0), (1, 0)] [0] _)
    exact SdS.weak (by decide) (S_14)
theorem wl_1_89 : Cond.fieldLink RX2 138 "NarrowRings$City" "carts" "I" ∈ WALL := tb1 (List.mem_of_getElem? (i := 89) rfl) rfl
theorem wl_4_162 : Cond.methodLink RX2 141 yX1_cartBears ∈ WALL := tb4 (List.mem_of_getElem? (i := 162) rfl) rfl
theorem hd_X2_takeCart : yX2_takeCart.cls ≠ "java/lang/invoke/MethodHandle" ∧ yX2_takeCart.cls ≠ "java/lang/invoke/VarHandle" ∧ (parseMethodDescriptor yX2_takeCart.desc).map (fun d => d.parameters.length) = some 2 := by decide +kernel
set_option maxRecDepth 100000 in
set_option maxHeartbeats 4000000 in
theorem M_X2_takeCart (l : Launch) : MtS l yX2_takeCart (Cond.code yX2_takeCart cX2_takeCart 5 none :: WALL) { frames := 2, cells := 0, slots := 0, locals := 44 } [12, 0, 0] none T_X2_takeCart := by
  refine MtS.mk (B := E_X2_takeCart) (by decide +kernel) (by decide) (fun _ _ _ hh => hh) ?_
  intro X Q e1 e2 e3 hC hN hT
  subst e1
  have hC : CF X cX2_takeCart RX2 WALL := hC
  have S_92 : ∀ (k9 : xK), SdS X 9 [(0, 12), (1, 0), (2, 0), (3, 16), (4, 0)] [] k9 → SdS X 92 [(0, 12), (1, 0), (2, 0), (3, 16), (4, 0)] [] (B_X2_takeCart_92 Q k9) := by
    intro k9 h9
    unfold B_X2_takeCart_92
    refine su_iinc (Γ' := [(0, 12), (1, 0), (2, 0), (3, 16), (4, 0)]) hC dX2_takeCart_92 (by decide) (by rw [e2]; decide) (by decide) (?_ : SdS X 95 [(0, 12), (1, 0), (2, 0), (3, 16), (4, 0)] [] _)
    refine su_goto (tgt := 9) hC dX2_takeCart_95 rfl (?_ : SdS X 9 [(0, 12), (1, 0), (2, 0), (3, 16), (4, 0)] [] _)
    exact SdS.weak (by decide) h9
  have S_9 : SdS X 9 [(0, 12), (1, 0), (2, 0), (3, 16), (4, 0)] [] (L_X2_takeCart_9 Q) := by
    unfold L_X2_takeCart_9
    refine SdS.loop (fun k9 h9 => ?_)
    refine su_iload hC dX2_takeCart_9 (by decide) (?_ : SdS X 11 [(0, 12), (1, 0), (2, 0), (3, 16), (4, 0)] [0] _)
    refine su_aload_n hC 12 dX2_takeCart_11 rfl (by decide) (by decide) (?_ : SdS X 12 [(0, 12), (1, 0), (2, 0), (3, 16), (4, 0)] [12, 0] _)
    refine su_getR hC (ci := 2) (j := 8) (C := RX2) (T := TX2) (N := 10) rfl rfl (by decide) in_X2 wl_2_51 rfl dX2_takeCart_12 (?_ : SdS X 15 [(0, 12), (1, 0), (2, 0), (3, 16), (4, 0)] [11, 0] _)
    refine su_getF hC (ci := 1) (j := 2) (C := RX1) (T := TX1) (N := 12) rfl rfl (by decide) in_X1 wl_1_89 rfl dX2_takeCart_15 (?_ : SdS X 18 [(0, 12), (1, 0), (2, 0), (3, 16), (4, 0)] [0, 0] _)
    refine su_icmp_ge (tgt := 98) hC dX2_takeCart_18 rfl (?_ : SdS X 98 [(0, 12), (1, 0), (2, 0), (3, 16), (4, 0)] [] _) (?_ : SdS X 21 [(0, 12), (1, 0), (2, 0), (3, 16), (4, 0)] [] _)
    · exact su_return hC hT dX2_takeCart_98
    · refine su_aload_n hC 12 dX2_takeCart_21 rfl (by decide) (by decide) (?_ : SdS X 22 [(0, 12), (1, 0), (2, 0), (3, 16), (4, 0)] [12] _)
      refine su_getR hC (ci := 2) (j := 3) (C := RX2) (T := TX2) (N := 10) rfl rfl (by decide) in_X2 wl_2_42 rfl dX2_takeCart_22 (?_ : SdS X 25 [(0, 12), (1, 0), (2, 0), (3, 16), (4, 0)] [100] _)
      refine su_iload hC dX2_takeCart_25 (by decide) (?_ : SdS X 27 [(0, 12), (1, 0), (2, 0), (3, 16), (4, 0)] [0, 100] _)
      refine su_iaload hC dX2_takeCart_27 (?_ : SdS X 28 [(0, 12), (1, 0), (2, 0), (3, 16), (4, 0)] [0] _)
      refine su_bipush hC dX2_takeCart_28 (by decide) (?_ : SdS X 30 [(0, 12), (1, 0), (2, 0), (3, 16), (4, 0)] [0, 0] _)
      refine su_icmp_ne (tgt := 92) hC dX2_takeCart_30 rfl (?_ : SdS X 92 [(0, 12), (1, 0), (2, 0), (3, 16), (4, 0)] [] _) (?_ : SdS X 33 [(0, 12), (1, 0), (2, 0), (3, 16), (4, 0)] [] _)
      · exact SdS.weak (by decide) (S_92 k9 h9)
      · refine su_aload_n hC 12 dX2_takeCart_33 rfl (by decide) (by decide) (?_ : SdS X 34 [(0, 12), (1, 0), (2, 0), (3, 16), (4, 0)] [12] _)
        refine su_getR hC (ci := 2) (j := 8) (C := RX2) (T := TX2) (N := 10) rfl rfl (by decide) in_X2 wl_2_51 rfl dX2_takeCart_34 (?_ : SdS X 37 [(0, 12), (1, 0), (2, 0), (3, 16), (4, 0)] [11] _)
        refine su_aload_n hC 16 dX2_takeCart_37 rfl (by decide) (by decide) (?_ : SdS X 38 [(0, 12), (1, 0), (2, 0), (3, 16), (4, 0)] [16, 11] _)
        refine su_iload hC dX2_takeCart_38 (by decide) (?_ : SdS X 40 [(0, 12), (1, 0), (2, 0), (3, 16), (4, 0)] [0, 16, 11] _)
        refine su_aload_n hC 12 dX2_takeCart_40 rfl (by decide) (by decide) (?_ : SdS X 41 [(0, 12), (1, 0), (2, 0), (3, 16), (4, 0)] [12, 0, 16, 11] _)
        refine su_getR hC (ci := 2) (j := 2) (C := RX2) (T := TX2) (N := 10) rfl rfl (by decide) in_X2 wl_2_40 rfl dX2_takeCart_41 (?_ : SdS X 44 [(0, 12), (1, 0), (2, 0), (3, 16), (4, 0)] [200, 0, 16, 11] _)
        refine su_iconst hC dX2_takeCart_44 ⟨by decide, by decide⟩ (?_ : SdS X 45 [(0, 12), (1, 0), (2, 0), (3, 16), (4, 0)] [0, 200, 0, 16, 11] _)
        refine su_aaload (e := 100) hC (List.mem_of_getElem? (i := 7) rfl) rfl rfl rfl dX2_takeCart_45 (?_ : SdS X 46 [(0, 12), (1, 0), (2, 0), (3, 16), (4, 0)] [100, 0, 16, 11] _)
        refine su_iload_n hC dX2_takeCart_46 rfl (by decide) (?_ : SdS X 47 [(0, 12), (1, 0), (2, 0), (3, 16), (4, 0)] [0, 100, 0, 16, 11] _)
        refine su_iaload hC dX2_takeCart_47 (?_ : SdS X 48 [(0, 12), (1, 0), (2, 0), (3, 16), (4, 0)] [0, 0, 16, 11] _)
        refine su_inv0 (τ := []) (τr := [16, 0, 0]) (ci := 1) (q := (RX1, TX1, 12)) hC WG (M_X1_cartBears _) rfl rfl rfl rfl  rfl rfl wl_4_162 wl_3_154 wl_3_155 wl_1_2 wl_3_156 hd_X1_cartBears (by rw [e3]; decide) (by decide) dX2_takeCart_48 (?_ : SdS X 51 [(0, 12), (1, 0), (2, 0), (3, 16), (4, 0)] [0] _)
        refine su_if_eq (tgt := 92) hC dX2_takeCart_51 rfl (?_ : SdS X 92 [(0, 12), (1, 0), (2, 0), (3, 16), (4, 0)] [] _) (?_ : SdS X 54 [(0, 12), (1, 0), (2, 0), (3, 16), (4, 0)] [] _)
        · exact SdS.weak (by decide) (S_92 k9 h9)
        · refine su_aload_n hC 12 dX2_takeCart_54 rfl (by decide) (by decide) (?_ : SdS X 55 [(0, 12), (1, 0), (2, 0), (3, 16), (4, 0)] [12] _)
          refine su_getR hC (ci := 2) (j := 3) (C := RX2) (T := TX2) (N := 10) rfl rfl (by decide) in_X2 wl_2_42 rfl dX2_takeCart_55 (?_ : SdS X 58 [(0, 12), (1, 0), (2, 0), (3, 16), (4, 0)] [100] _)
          refine su_iload hC dX2_takeCart_58 (by decide) (?_ : SdS X 60 [(0, 12), (1, 0), (2, 0), (3, 16), (4, 0)] [0, 100] _)
          refine su_iload_n hC dX2_takeCart_60 rfl (by decide) (?_ : SdS X 61 [(0, 12), (1, 0), (2, 0), (3, 16), (4, 0)] [0, 0, 100] _)
          refine su_iastore hC dX2_takeCart_61 (?_ : SdS X 62 [(0, 12), (1, 0), (2, 0), (3, 16), (4, 0)] [] _)
          refine su_aload_n hC 12 dX2_takeCart_62 rfl (by decide) (by decide) (?_ : SdS X 63 [(0, 12), (1, 0), (2, 0), (3, 16), (4, 0)] [12] _)
          refine su_getR hC (ci := 2) (j := 2) (C := RX2) (T := TX2) (N := 10) rfl rfl (by decide) in_X2 wl_2_40 rfl dX2_takeCart_63 (?_ : SdS X 66 [(0, 12), (1, 0), (2, 0), (3, 16), (4, 0)] [200] _)
          refine su_bipush hC dX2_takeCart_66 (by decide) (?_ : SdS X 68 [(0, 12), (1, 0), (2, 0), (3, 16), (4, 0)] [0, 200] _)
          refine su_aaload (e := 100) hC (List.mem_of_getElem? (i := 7) rfl) rfl rfl rfl dX2_takeCart_68 (?_ : SdS X 69 [(0, 12), (1, 0), (2, 0), (3, 16), (4, 0)] [100] _)
          refine su_iload_n hC dX2_takeCart_69 rfl (by decide) (?_ : SdS X 70 [(0, 12), (1, 0), (2, 0), (3, 16), (4, 0)] [0, 100] _)
          refine su_iload hC dX2_takeCart_70 (by decide) (?_ : SdS X 72 [(0, 12), (1, 0), (2, 0), (3, 16), (4, 0)] [0, 0, 100] _)
          refine su_iastore hC dX2_takeCart_72 (?_ : SdS X 73 [(0, 12), (1, 0), (2, 0), (3, 16), (4, 0)] [] _)
          refine su_aload_n hC 12 dX2_takeCart_73 rfl (by decide) (by decide) (?_ : SdS X 74 [(0, 12), (1, 0), (2, 0), (3, 16), (4, 0)] [12] _)
          refine su_getR hC (ci := 2) (j := 2) (C := RX2) (T := TX2) (N := 10) rfl rfl (by decide) in_X2 wl_2_40 rfl dX2_takeCart_74 (?_ : SdS X 77 [(0, 12), (1, 0), (2, 0), (3, 16), (4, 0)] [200] _)
          refine su_iconst hC dX2_takeCart_77 ⟨by decide, by decide⟩ (?_ : SdS X 78 [(0, 12), (1, 0), (2, 0), (3, 16), (4, 0)] [0, 200] _)
          refine su_aaload (e := 100) hC (List.mem_of_getElem? (i := 7) rfl) rfl rfl rfl dX2_takeCart_78 (?_ : SdS X 79 [(0, 12), (1, 0), (2, 0), (3, 16), (4, 0)] [100] _)
          refine su_iload_n hC dX2_takeCart_79 rfl (by decide) (?_ : SdS X 80 [(0, 12), (1, 0), (2, 0), (3, 16), (4, 0)] [0, 100] _)
          refine su_iconst hC dX2_takeCart_80 ⟨by decide, by decide⟩ (?_ : SdS X 81 [(0, 12), (1, 0), (2, 0), (3, 16), (4, 0)] [0, 0, 100] _)
          refine su_iastore hC dX2_takeCart_81 (?_ : SdS X 82 [(0, 12), (1, 0), (2, 0), (3, 16), (4, 0)] [] _)
          refine su_aload_n hC 12 dX2_takeCart_82 rfl (by decide) (by decide) (?_ : SdS X 83 [(0, 12), (1, 0), (2, 0), (3, 16), (4, 0)] [12] _)
          refine su_getR hC (ci := 2) (j := 2) (C := RX2) (T := TX2) (N := 10) rfl rfl (by decide) in_X2 wl_2_40 rfl dX2_takeCart_83 (?_ : SdS X 86 [(0, 12), (1, 0), (2, 0), (3, 16), (4, 0)] [200] _)
          refine su_iconst hC dX2_takeCart_86 ⟨by decide, by decide⟩ (?_ : SdS X 87 [(0, 12), (1, 0), (2, 0), (3, 16), (4, 0)] [0, 200] _)
          refine su_aaload (e := 100) hC (List.mem_of_getElem? (i := 7) rfl) rfl rfl rfl dX2_takeCart_87 (?_ : SdS X 88 [(0, 12), (1, 0), (2, 0), (3, 16), (4, 0)] [100] _)
          refine su_iload_n hC dX2_takeCart_88 rfl (by decide) (?_ : SdS X 89 [(0, 12), (1, 0), (2, 0), (3, 16), (4, 0)] [0, 100] _)
          refine su_iload_n hC dX2_takeCart_89 rfl (by decide) (?_ : SdS X 90 [(0, 12), (1, 0), (2, 0), (3, 16), (4, 0)] [0, 0, 100] _)
          refine su_iastore hC dX2_takeCart_90 (?_ : SdS X 91 [(0, 12), (1, 0), (2, 0), (3, 16), (4, 0)] [] _)
          exact su_return hC hT dX2_takeCart_91
  refine (?_ : SdS X 0 [(0, 12), (1, 0), (2, 0)] [] (E_X2_takeCart Q))
  unfold E_X2_takeCart
  refine su_aload_n hC 12 dX2_takeCart_0 rfl (by decide) (by decide) (?_ : SdS X 1 [(0, 12), (1, 0), (2, 0)] [12] _)
  refine su_iload_n hC dX2_takeCart_1 rfl (by decide) (?_ : SdS X 2 [(0, 12), (1, 0), (2, 0)] [0, 12] _)
  refine su_inv0 (τ := []) (τr := [0]) (ci := 2) (q := (RX2, TX2, 10)) hC WG (M_X2_thingOf _) rfl rfl rfl rfl  rfl rfl wl_4_147 wl_4_149 wp_53 wl_1_7 wl_4_150 hd_X2_thingOf (by rw [e3]; decide) (by decide) dX2_takeCart_2 (?_ : SdS X 5 [(0, 12), (1, 0), (2, 0)] [16] _)
  refine su_astore_n (Γ' := [(0, 12), (1, 0), (2, 0), (3, 16)]) hC dX2_takeCart_5 rfl (by decide) (by rw [e2]; decide) (by decide) (?_ : SdS X 6 [(0, 12), (1, 0), (2, 0), (3, 16)] [] _)
  refine su_iconst hC dX2_takeCart_6 ⟨by decide, by decide⟩ (?_ : SdS X 7 [(0, 12), (1, 0), (2, 0), (3, 16)] [0] _)
  refine su_istore (Γ' := [(0, 12), (1, 0), (2, 0), (3, 16), (4, 0)]) hC dX2_takeCart_7 (by rw [e2]; decide) (by decide) (?_ : SdS X 9 [(0, 12), (1, 0), (2, 0), (3, 16), (4, 0)] [] _)
  exact SdS.weak (by decide) (S_9)
theorem wl_3_194 : Cond.static yX8_apart ∈ WALL := tb3 (List.mem_of_getElem? (i := 194) rfl) rfl
theorem wl_3_195 : Cond.code yX8_apart cX8_apart 3 (some .int) ∈ WALL := tb3 (List.mem_of_getElem? (i := 195) rfl) rfl
theorem wl_4_158 : Cond.methodLink RX2 135 yX2_takeCart ∈ WALL := tb4 (List.mem_of_getElem? (i := 158) rfl) rfl
theorem wl_4_160 : Cond.instanceMethod yX2_takeCart ∈ WALL := tb4 (List.mem_of_getElem? (i := 160) rfl) rfl
theorem wp_55 : Cond.selects RX2 yX2_takeCart yX2_takeCart ∈ WALL := tbS (List.mem_of_getElem? (i := 55) rfl)
theorem wl_4_161 : Cond.code yX2_takeCart cX2_takeCart 5 none ∈ WALL := tb4 (List.mem_of_getElem? (i := 161) rfl) rfl
theorem hd_X2_setOut : yX2_setOut.cls ≠ "java/lang/invoke/MethodHandle" ∧ yX2_setOut.cls ≠ "java/lang/invoke/VarHandle" ∧ (parseMethodDescriptor yX2_setOut.desc).map (fun d => d.parameters.length) = some 1 := by decide +kernel
set_option maxRecDepth 100000 in
set_option maxHeartbeats 4000000 in
theorem M_X2_setOut (l : Launch) : MtS l yX2_setOut (Cond.code yX2_setOut cX2_setOut 3 none :: WALL) { frames := 3, cells := 0, slots := 0, locals := 68 } [12, 0] none T_X2_setOut := by
  refine MtS.mk (B := E_X2_setOut) (by decide +kernel) (by decide) (fun _ _ _ hh => hh) ?_
  intro X Q e1 e2 e3 hC hN hT
  subst e1
  have hC : CF X cX2_setOut RX2 WALL := hC
  have S_93 : SdS X 93 [(0, 12), (1, 0), (2, 0)] [] (B_X2_setOut_93 Q) := by
    unfold B_X2_setOut_93
    exact su_return hC hT dX2_setOut_93
  have S_45 : SdS X 45 [(0, 12), (1, 0)] [] (B_X2_setOut_45 Q) := by
    unfold B_X2_setOut_45
    refine su_aload_n hC 12 dX2_setOut_45 rfl (by decide) (by decide) (?_ : SdS X 46 [(0, 12), (1, 0)] [12] _)
    refine su_getR hC (ci := 2) (j := 2) (C := RX2) (T := TX2) (N := 10) rfl rfl (by decide) in_X2 wl_2_40 rfl dX2_setOut_46 (?_ : SdS X 49 [(0, 12), (1, 0)] [200] _)
    refine su_iconst hC dX2_setOut_49 ⟨by decide, by decide⟩ (?_ : SdS X 50 [(0, 12), (1, 0)] [0, 200] _)
    refine su_aaload (e := 100) hC (List.mem_of_getElem? (i := 7) rfl) rfl rfl rfl dX2_setOut_50 (?_ : SdS X 51 [(0, 12), (1, 0)] [100] _)
    refine su_iload_n hC dX2_setOut_51 rfl (by decide) (?_ : SdS X 52 [(0, 12), (1, 0)] [0, 100] _)
    refine su_iaload hC dX2_setOut_52 (?_ : SdS X 53 [(0, 12), (1, 0)] [0] _)
    refine su_iconst hC dX2_setOut_53 ⟨by decide, by decide⟩ (?_ : SdS X 54 [(0, 12), (1, 0)] [0, 0] _)
    refine su_icmp_eq (tgt := 58) hC dX2_setOut_54 rfl (?_ : SdS X 58 [(0, 12), (1, 0)] [] _) (?_ : SdS X 57 [(0, 12), (1, 0)] [] _)
    · refine su_aload_n hC 12 dX2_setOut_58 rfl (by decide) (by decide) (?_ : SdS X 59 [(0, 12), (1, 0)] [12] _)
      refine su_getR hC (ci := 2) (j := 2) (C := RX2) (T := TX2) (N := 10) rfl rfl (by decide) in_X2 wl_2_40 rfl dX2_setOut_59 (?_ : SdS X 62 [(0, 12), (1, 0)] [200] _)
      refine su_iconst hC dX2_setOut_62 ⟨by decide, by decide⟩ (?_ : SdS X 63 [(0, 12), (1, 0)] [0, 200] _)
      refine su_aaload (e := 100) hC (List.mem_of_getElem? (i := 7) rfl) rfl rfl rfl dX2_setOut_63 (?_ : SdS X 64 [(0, 12), (1, 0)] [100] _)
      refine su_iload_n hC dX2_setOut_64 rfl (by decide) (?_ : SdS X 65 [(0, 12), (1, 0)] [0, 100] _)
      refine su_iaload hC dX2_setOut_65 (?_ : SdS X 66 [(0, 12), (1, 0)] [0] _)
      refine su_aload_n hC 12 dX2_setOut_66 rfl (by decide) (by decide) (?_ : SdS X 67 [(0, 12), (1, 0)] [12, 0] _)
      refine su_iload_n hC dX2_setOut_67 rfl (by decide) (?_ : SdS X 68 [(0, 12), (1, 0)] [0, 12, 0] _)
      refine su_inv0 (τ := [0]) (τr := [0]) (ci := 2) (q := (RX2, TX2, 10)) hC WG (M_X2_placeAhead _) rfl rfl rfl rfl  rfl rfl wl_4_123 wl_4_125 wp_47 wl_1_7 wl_4_126 hd_X2_placeAhead (by rw [e3]; decide) (by decide) dX2_setOut_68 (?_ : SdS X 71 [(0, 12), (1, 0)] [0, 0] _)
      refine su_invs (τ := []) (τs := [0, 0]) hC true "NarrowRings" WG (M_X8_apart _) rfl rfl rfl rfl (by decide) wl_3_194 wl_1_1 wl_3_195 hd_X8_apart (by rw [e3]; decide) (by decide) dX2_setOut_71 (?_ : SdS X 74 [(0, 12), (1, 0)] [0] _)
      refine su_istore_n (Γ' := [(0, 12), (1, 0), (2, 0)]) hC dX2_setOut_74 rfl (by rw [e2]; decide) (by decide) (?_ : SdS X 75 [(0, 12), (1, 0), (2, 0)] [] _)
      refine su_iload_n hC dX2_setOut_75 rfl (by decide) (?_ : SdS X 76 [(0, 12), (1, 0), (2, 0)] [0] _)
      refine su_if_ne (tgt := 87) hC dX2_setOut_76 rfl (?_ : SdS X 87 [(0, 12), (1, 0), (2, 0)] [] _) (?_ : SdS X 79 [(0, 12), (1, 0), (2, 0)] [] _)
      · refine su_aload_n hC 12 dX2_setOut_87 rfl (by decide) (by decide) (?_ : SdS X 88 [(0, 12), (1, 0), (2, 0)] [12] _)
        refine su_iload_n hC dX2_setOut_88 rfl (by decide) (?_ : SdS X 89 [(0, 12), (1, 0), (2, 0)] [0, 12] _)
        refine su_iload_n hC dX2_setOut_89 rfl (by decide) (?_ : SdS X 90 [(0, 12), (1, 0), (2, 0)] [0, 0, 12] _)
        refine su_inv0v (τ := []) (τr := [0, 0]) (ci := 2) (q := (RX2, TX2, 10)) hC WG (M_X2_takeCart _) rfl rfl rfl rfl  rfl rfl wl_4_158 wl_4_160 wp_55 wl_1_7 wl_4_161 hd_X2_takeCart (by rw [e3]; decide) (by decide) dX2_setOut_90 (?_ : SdS X 93 [(0, 12), (1, 0), (2, 0)] [] _)
        exact SdS.weak (by decide) (S_93)
      · refine su_aload_n hC 12 dX2_setOut_79 rfl (by decide) (by decide) (?_ : SdS X 80 [(0, 12), (1, 0), (2, 0)] [12] _)
        refine su_iload_n hC dX2_setOut_80 rfl (by decide) (?_ : SdS X 81 [(0, 12), (1, 0), (2, 0)] [0, 12] _)
        refine su_inv0v (τ := []) (τr := [0]) (ci := 2) (q := (RX2, TX2, 10)) hC WG (M_X2_arrive _) rfl rfl rfl rfl  rfl rfl wl_4_131 wl_4_133 wp_49 wl_1_7 wl_4_134 hd_X2_arrive (by rw [e3]; decide) (by decide) dX2_setOut_81 (?_ : SdS X 84 [(0, 12), (1, 0), (2, 0)] [] _)
        refine su_goto (tgt := 93) hC dX2_setOut_84 rfl (?_ : SdS X 93 [(0, 12), (1, 0), (2, 0)] [] _)
        exact SdS.weak (by decide) (S_93)
    · exact su_return hC hT dX2_setOut_57
  refine (?_ : SdS X 0 [(0, 12), (1, 0)] [] (E_X2_setOut Q))
  unfold E_X2_setOut
  refine su_aload_n hC 12 dX2_setOut_0 rfl (by decide) (by decide) (?_ : SdS X 1 [(0, 12), (1, 0)] [12] _)
  refine su_getR hC (ci := 2) (j := 2) (C := RX2) (T := TX2) (N := 10) rfl rfl (by decide) in_X2 wl_2_40 rfl dX2_setOut_1 (?_ : SdS X 4 [(0, 12), (1, 0)] [200] _)
  refine su_iconst hC dX2_setOut_4 ⟨by decide, by decide⟩ (?_ : SdS X 5 [(0, 12), (1, 0)] [0, 200] _)
  refine su_aaload (e := 100) hC (List.mem_of_getElem? (i := 7) rfl) rfl rfl rfl dX2_setOut_5 (?_ : SdS X 6 [(0, 12), (1, 0)] [100] _)
  refine su_iload_n hC dX2_setOut_6 rfl (by decide) (?_ : SdS X 7 [(0, 12), (1, 0)] [0, 100] _)
  refine su_iaload hC dX2_setOut_7 (?_ : SdS X 8 [(0, 12), (1, 0)] [0] _)
  refine su_if_ne (tgt := 45) hC dX2_setOut_8 rfl (?_ : SdS X 45 [(0, 12), (1, 0)] [] _) (?_ : SdS X 11 [(0, 12), (1, 0)] [] _)
  · exact SdS.weak (by decide) (S_45)
  · refine su_aload_n hC 12 dX2_setOut_11 rfl (by decide) (by decide) (?_ : SdS X 12 [(0, 12), (1, 0)] [12] _)
    refine su_getR hC (ci := 2) (j := 8) (C := RX2) (T := TX2) (N := 10) rfl rfl (by decide) in_X2 wl_2_51 rfl dX2_setOut_12 (?_ : SdS X 15 [(0, 12), (1, 0)] [11] _)
    refine su_getR hC (ci := 1) (j := 9) (C := RX1) (T := TX1) (N := 12) rfl rfl (by decide) in_X1 wl_1_113 rfl dX2_setOut_15 (?_ : SdS X 18 [(0, 12), (1, 0)] [200] _)
    refine su_aload_n hC 12 dX2_setOut_18 rfl (by decide) (by decide) (?_ : SdS X 19 [(0, 12), (1, 0)] [12, 200] _)
    refine su_getR hC (ci := 2) (j := 2) (C := RX2) (T := TX2) (N := 10) rfl rfl (by decide) in_X2 wl_2_40 rfl dX2_setOut_19 (?_ : SdS X 22 [(0, 12), (1, 0)] [200, 200] _)
    refine su_iconst hC dX2_setOut_22 ⟨by decide, by decide⟩ (?_ : SdS X 23 [(0, 12), (1, 0)] [0, 200, 200] _)
    refine su_aaload (e := 100) hC (List.mem_of_getElem? (i := 7) rfl) rfl rfl rfl dX2_setOut_23 (?_ : SdS X 24 [(0, 12), (1, 0)] [100, 200] _)
    refine su_iload_n hC dX2_setOut_24 rfl (by decide) (?_ : SdS X 25 [(0, 12), (1, 0)] [0, 100, 200] _)
    refine su_iaload hC dX2_setOut_25 (?_ : SdS X 26 [(0, 12), (1, 0)] [0, 200] _)
    refine su_aaload (e := 100) hC (List.mem_of_getElem? (i := 7) rfl) rfl rfl rfl dX2_setOut_26 (?_ : SdS X 27 [(0, 12), (1, 0)] [100] _)
    refine su_iconst hC dX2_setOut_27 ⟨by decide, by decide⟩ (?_ : SdS X 28 [(0, 12), (1, 0)] [0, 100] _)
    refine su_iaload hC dX2_setOut_28 (?_ : SdS X 29 [(0, 12), (1, 0)] [0] _)
    refine su_aload_n hC 12 dX2_setOut_29 rfl (by decide) (by decide) (?_ : SdS X 30 [(0, 12), (1, 0)] [12, 0] _)
    refine su_getF hC (ci := 2) (j := 0) (C := RX2) (T := TX2) (N := 10) rfl rfl (by decide) in_X2 wl_2_36 rfl dX2_setOut_30 (?_ : SdS X 33 [(0, 12), (1, 0)] [0, 0] _)
    refine su_icmp_ne (tgt := 45) hC dX2_setOut_33 rfl (?_ : SdS X 45 [(0, 12), (1, 0)] [] _) (?_ : SdS X 36 [(0, 12), (1, 0)] [] _)
    · exact SdS.weak (by decide) (S_45)
    · refine su_aload_n hC 12 dX2_setOut_36 rfl (by decide) (by decide) (?_ : SdS X 37 [(0, 12), (1, 0)] [12] _)
      refine su_getR hC (ci := 2) (j := 2) (C := RX2) (T := TX2) (N := 10) rfl rfl (by decide) in_X2 wl_2_40 rfl dX2_setOut_37 (?_ : SdS X 40 [(0, 12), (1, 0)] [200] _)
      refine su_iconst hC dX2_setOut_40 ⟨by decide, by decide⟩ (?_ : SdS X 41 [(0, 12), (1, 0)] [0, 200] _)
      refine su_aaload (e := 100) hC (List.mem_of_getElem? (i := 7) rfl) rfl rfl rfl dX2_setOut_41 (?_ : SdS X 42 [(0, 12), (1, 0)] [100] _)
      refine su_iload_n hC dX2_setOut_42 rfl (by decide) (?_ : SdS X 43 [(0, 12), (1, 0)] [0, 100] _)
      refine su_iconst hC dX2_setOut_43 ⟨by decide, by decide⟩ (?_ : SdS X 44 [(0, 12), (1, 0)] [0, 0, 100] _)
      refine su_iastore hC dX2_setOut_44 (?_ : SdS X 45 [(0, 12), (1, 0)] [] _)
      exact SdS.weak (by decide) (S_45)
theorem wl_4_139 : Cond.methodLink RX2 81 yX2_serveGates ∈ WALL := tb4 (List.mem_of_getElem? (i := 139) rfl) rfl
theorem wl_4_141 : Cond.instanceMethod yX2_serveGates ∈ WALL := tb4 (List.mem_of_getElem? (i := 141) rfl) rfl
theorem wp_51 : Cond.selects RX2 yX2_serveGates yX2_serveGates ∈ WALL := tbS (List.mem_of_getElem? (i := 51) rfl)
theorem wl_4_142 : Cond.code yX2_serveGates cX2_serveGates 3 none ∈ WALL := tb4 (List.mem_of_getElem? (i := 142) rfl) rfl
theorem wl_4_153 : Cond.methodLink RX2 84 yX2_setOut ∈ WALL := tb4 (List.mem_of_getElem? (i := 153) rfl) rfl
theorem wl_4_155 : Cond.instanceMethod yX2_setOut ∈ WALL := tb4 (List.mem_of_getElem? (i := 155) rfl) rfl
theorem wp_54 : Cond.selects RX2 yX2_setOut yX2_setOut ∈ WALL := tbS (List.mem_of_getElem? (i := 54) rfl)
theorem wl_4_156 : Cond.code yX2_setOut cX2_setOut 3 none ∈ WALL := tb4 (List.mem_of_getElem? (i := 156) rfl) rfl
theorem wl_4_115 : Cond.methodLink RX2 78 yX2_advance ∈ WALL := tb4 (List.mem_of_getElem? (i := 115) rfl) rfl
theorem wl_4_117 : Cond.instanceMethod yX2_advance ∈ WALL := tb4 (List.mem_of_getElem? (i := 117) rfl) rfl
theorem wp_45 : Cond.selects RX2 yX2_advance yX2_advance ∈ WALL := tbS (List.mem_of_getElem? (i := 45) rfl)
theorem wl_4_118 : Cond.code yX2_advance cX2_advance 3 none ∈ WALL := tb4 (List.mem_of_getElem? (i := 118) rfl) rfl
theorem hd_X2_goOn : yX2_goOn.cls ≠ "java/lang/invoke/MethodHandle" ∧ yX2_goOn.cls ≠ "java/lang/invoke/VarHandle" ∧ (parseMethodDescriptor yX2_goOn.desc).map (fun d => d.parameters.length) = some 0 := by decide +kernel
set_option maxRecDepth 100000 in
set_option maxHeartbeats 4000000 in
theorem M_X2_goOn (l : Launch) : MtS l yX2_goOn (Cond.code yX2_goOn cX2_goOn 2 none :: WALL) { frames := 4, cells := 0, slots := 0, locals := 90 } [12] none T_X2_goOn := by
  refine MtS.mk (B := E_X2_goOn) (by decide +kernel) (by decide) (fun _ _ _ hh => hh) ?_
  intro X Q e1 e2 e3 hC hN hT
  subst e1
  have hC : CF X cX2_goOn RX2 WALL := hC
  have S_92 : ∀ (k48 : xK), SdS X 48 [(0, 12), (1, 0)] [] k48 → SdS X 92 [(0, 12), (1, 0)] [] (B_X2_goOn_92 Q k48) := by
    intro k48 h48
    unfold B_X2_goOn_92
    refine su_iinc (Γ' := [(0, 12), (1, 0)]) hC dX2_goOn_92 (by decide) (by rw [e2]; decide) (by decide) (?_ : SdS X 95 [(0, 12), (1, 0)] [] _)
    refine su_goto (tgt := 48) hC dX2_goOn_95 rfl (?_ : SdS X 48 [(0, 12), (1, 0)] [] _)
    exact SdS.weak (by decide) h48
  have S_80 : ∀ (k48 : xK), SdS X 48 [(0, 12), (1, 0)] [] k48 → SdS X 80 [(0, 12), (1, 0)] [] (B_X2_goOn_80 Q k48) := by
    intro k48 h48
    unfold B_X2_goOn_80
    refine su_aload_n hC 12 dX2_goOn_80 rfl (by decide) (by decide) (?_ : SdS X 81 [(0, 12), (1, 0)] [12] _)
    refine su_getR hC (ci := 2) (j := 2) (C := RX2) (T := TX2) (N := 10) rfl rfl (by decide) in_X2 wl_2_40 rfl dX2_goOn_81 (?_ : SdS X 84 [(0, 12), (1, 0)] [200] _)
    refine su_iconst hC dX2_goOn_84 ⟨by decide, by decide⟩ (?_ : SdS X 85 [(0, 12), (1, 0)] [0, 200] _)
    refine su_aaload (e := 100) hC (List.mem_of_getElem? (i := 7) rfl) rfl rfl rfl dX2_goOn_85 (?_ : SdS X 86 [(0, 12), (1, 0)] [100] _)
    refine su_iload_n hC dX2_goOn_86 rfl (by decide) (?_ : SdS X 87 [(0, 12), (1, 0)] [0, 100] _)
    refine su_dup2 hC (by decide) (by decide) dX2_goOn_87 (?_ : SdS X 88 [(0, 12), (1, 0)] [0, 100, 0, 100] _)
    refine su_iaload hC dX2_goOn_88 (?_ : SdS X 89 [(0, 12), (1, 0)] [0, 0, 100] _)
    refine su_iconst hC dX2_goOn_89 ⟨by decide, by decide⟩ (?_ : SdS X 90 [(0, 12), (1, 0)] [0, 0, 0, 100] _)
    refine su_iadd hC dX2_goOn_90 (?_ : SdS X 91 [(0, 12), (1, 0)] [0, 0, 100] _)
    refine su_iastore hC dX2_goOn_91 (?_ : SdS X 92 [(0, 12), (1, 0)] [] _)
    exact SdS.weak (by decide) (S_92 k48 h48)
  have S_48 : SdS X 48 [(0, 12), (1, 0)] [] (L_X2_goOn_48 Q) := by
    unfold L_X2_goOn_48
    refine SdS.loop (fun k48 h48 => ?_)
    refine su_iload_n hC dX2_goOn_48 rfl (by decide) (?_ : SdS X 49 [(0, 12), (1, 0)] [0] _)
    refine su_aload_n hC 12 dX2_goOn_49 rfl (by decide) (by decide) (?_ : SdS X 50 [(0, 12), (1, 0)] [12, 0] _)
    refine su_getF hC (ci := 2) (j := 1) (C := RX2) (T := TX2) (N := 10) rfl rfl (by decide) in_X2 wl_2_38 rfl dX2_goOn_50 (?_ : SdS X 53 [(0, 12), (1, 0)] [0, 0] _)
    refine su_icmp_ge (tgt := 98) hC dX2_goOn_53 rfl (?_ : SdS X 98 [(0, 12), (1, 0)] [] _) (?_ : SdS X 56 [(0, 12), (1, 0)] [] _)
    · refine su_aload_n hC 12 dX2_goOn_98 rfl (by decide) (by decide) (?_ : SdS X 99 [(0, 12), (1, 0)] [12] _)
      refine su_dup hC (by decide) dX2_goOn_99 (?_ : SdS X 100 [(0, 12), (1, 0)] [12, 12] _)
      refine su_getF hC (ci := 2) (j := 0) (C := RX2) (T := TX2) (N := 10) rfl rfl (by decide) in_X2 wl_2_36 rfl dX2_goOn_100 (?_ : SdS X 103 [(0, 12), (1, 0)] [0, 12] _)
      refine su_iconst hC dX2_goOn_103 ⟨by decide, by decide⟩ (?_ : SdS X 104 [(0, 12), (1, 0)] [0, 0, 12] _)
      refine su_iadd hC dX2_goOn_104 (?_ : SdS X 105 [(0, 12), (1, 0)] [0, 12] _)
      refine su_putF hC (ci := 2) (j := 0) (C := RX2) (T := TX2) (N := 10) tyX2 tyX2_ok nmX2 rfl rfl (by decide) in_X2 rfl rfl wl_2_36 rfl dX2_goOn_105 (?_ : SdS X 108 [(0, 12), (1, 0)] [] _)
      exact su_return hC hT dX2_goOn_108
    · refine su_aload_n hC 12 dX2_goOn_56 rfl (by decide) (by decide) (?_ : SdS X 57 [(0, 12), (1, 0)] [12] _)
      refine su_getR hC (ci := 2) (j := 2) (C := RX2) (T := TX2) (N := 10) rfl rfl (by decide) in_X2 wl_2_40 rfl dX2_goOn_57 (?_ : SdS X 60 [(0, 12), (1, 0)] [200] _)
      refine su_iconst hC dX2_goOn_60 ⟨by decide, by decide⟩ (?_ : SdS X 61 [(0, 12), (1, 0)] [0, 200] _)
      refine su_aaload (e := 100) hC (List.mem_of_getElem? (i := 7) rfl) rfl rfl rfl dX2_goOn_61 (?_ : SdS X 62 [(0, 12), (1, 0)] [100] _)
      refine su_iload_n hC dX2_goOn_62 rfl (by decide) (?_ : SdS X 63 [(0, 12), (1, 0)] [0, 100] _)
      refine su_iaload hC dX2_goOn_63 (?_ : SdS X 64 [(0, 12), (1, 0)] [0] _)
      refine su_iconst hC dX2_goOn_64 ⟨by decide, by decide⟩ (?_ : SdS X 65 [(0, 12), (1, 0)] [0, 0] _)
      refine su_icmp_eq (tgt := 80) hC dX2_goOn_65 rfl (?_ : SdS X 80 [(0, 12), (1, 0)] [] _) (?_ : SdS X 68 [(0, 12), (1, 0)] [] _)
      · exact SdS.weak (by decide) (S_80 k48 h48)
      · refine su_aload_n hC 12 dX2_goOn_68 rfl (by decide) (by decide) (?_ : SdS X 69 [(0, 12), (1, 0)] [12] _)
        refine su_getR hC (ci := 2) (j := 2) (C := RX2) (T := TX2) (N := 10) rfl rfl (by decide) in_X2 wl_2_40 rfl dX2_goOn_69 (?_ : SdS X 72 [(0, 12), (1, 0)] [200] _)
        refine su_iconst hC dX2_goOn_72 ⟨by decide, by decide⟩ (?_ : SdS X 73 [(0, 12), (1, 0)] [0, 200] _)
        refine su_aaload (e := 100) hC (List.mem_of_getElem? (i := 7) rfl) rfl rfl rfl dX2_goOn_73 (?_ : SdS X 74 [(0, 12), (1, 0)] [100] _)
        refine su_iload_n hC dX2_goOn_74 rfl (by decide) (?_ : SdS X 75 [(0, 12), (1, 0)] [0, 100] _)
        refine su_iaload hC dX2_goOn_75 (?_ : SdS X 76 [(0, 12), (1, 0)] [0] _)
        refine su_iconst hC dX2_goOn_76 ⟨by decide, by decide⟩ (?_ : SdS X 77 [(0, 12), (1, 0)] [0, 0] _)
        refine su_icmp_ne (tgt := 92) hC dX2_goOn_77 rfl (?_ : SdS X 92 [(0, 12), (1, 0)] [] _) (?_ : SdS X 80 [(0, 12), (1, 0)] [] _)
        · exact SdS.weak (by decide) (S_92 k48 h48)
        · exact SdS.weak (by decide) (S_80 k48 h48)
  have S_27 : SdS X 27 [(0, 12), (1, 0)] [] (L_X2_goOn_27 Q) := by
    unfold L_X2_goOn_27
    refine SdS.loop (fun k27 h27 => ?_)
    refine su_iload_n hC dX2_goOn_27 rfl (by decide) (?_ : SdS X 28 [(0, 12), (1, 0)] [0] _)
    refine su_aload_n hC 12 dX2_goOn_28 rfl (by decide) (by decide) (?_ : SdS X 29 [(0, 12), (1, 0)] [12, 0] _)
    refine su_getF hC (ci := 2) (j := 1) (C := RX2) (T := TX2) (N := 10) rfl rfl (by decide) in_X2 wl_2_38 rfl dX2_goOn_29 (?_ : SdS X 32 [(0, 12), (1, 0)] [0, 0] _)
    refine su_icmp_ge (tgt := 46) hC dX2_goOn_32 rfl (?_ : SdS X 46 [(0, 12), (1, 0)] [] _) (?_ : SdS X 35 [(0, 12), (1, 0)] [] _)
    · refine su_iconst hC dX2_goOn_46 ⟨by decide, by decide⟩ (?_ : SdS X 47 [(0, 12), (1, 0)] [0] _)
      refine su_istore_n (Γ' := [(0, 12), (1, 0)]) hC dX2_goOn_47 rfl (by rw [e2]; decide) (by decide) (?_ : SdS X 48 [(0, 12), (1, 0)] [] _)
      exact SdS.weak (by decide) (S_48)
    · refine su_aload_n hC 12 dX2_goOn_35 rfl (by decide) (by decide) (?_ : SdS X 36 [(0, 12), (1, 0)] [12] _)
      refine su_iload_n hC dX2_goOn_36 rfl (by decide) (?_ : SdS X 37 [(0, 12), (1, 0)] [0, 12] _)
      refine su_inv0v (τ := []) (τr := [0]) (ci := 2) (q := (RX2, TX2, 10)) hC WG (M_X2_setOut _) rfl rfl rfl rfl  rfl rfl wl_4_153 wl_4_155 wp_54 wl_1_7 wl_4_156 hd_X2_setOut (by rw [e3]; decide) (by decide) dX2_goOn_37 (?_ : SdS X 40 [(0, 12), (1, 0)] [] _)
      refine su_iinc (Γ' := [(0, 12), (1, 0)]) hC dX2_goOn_40 (by decide) (by rw [e2]; decide) (by decide) (?_ : SdS X 43 [(0, 12), (1, 0)] [] _)
      refine su_goto (tgt := 27) hC dX2_goOn_43 rfl (?_ : SdS X 27 [(0, 12), (1, 0)] [] _)
      exact SdS.weak (by decide) h27
  have S_2 : SdS X 2 [(0, 12), (1, 0)] [] (L_X2_goOn_2 Q) := by
    unfold L_X2_goOn_2
    refine SdS.loop (fun k2 h2 => ?_)
    refine su_iload_n hC dX2_goOn_2 rfl (by decide) (?_ : SdS X 3 [(0, 12), (1, 0)] [0] _)
    refine su_aload_n hC 12 dX2_goOn_3 rfl (by decide) (by decide) (?_ : SdS X 4 [(0, 12), (1, 0)] [12, 0] _)
    refine su_getF hC (ci := 2) (j := 1) (C := RX2) (T := TX2) (N := 10) rfl rfl (by decide) in_X2 wl_2_38 rfl dX2_goOn_4 (?_ : SdS X 7 [(0, 12), (1, 0)] [0, 0] _)
    refine su_icmp_ge (tgt := 21) hC dX2_goOn_7 rfl (?_ : SdS X 21 [(0, 12), (1, 0)] [] _) (?_ : SdS X 10 [(0, 12), (1, 0)] [] _)
    · refine su_aload_n hC 12 dX2_goOn_21 rfl (by decide) (by decide) (?_ : SdS X 22 [(0, 12), (1, 0)] [12] _)
      refine su_inv0v (τ := []) (τr := []) (ci := 2) (q := (RX2, TX2, 10)) hC WG (M_X2_serveGates _) rfl rfl rfl rfl  rfl rfl wl_4_139 wl_4_141 wp_51 wl_1_7 wl_4_142 hd_X2_serveGates (by rw [e3]; decide) (by decide) dX2_goOn_22 (?_ : SdS X 25 [(0, 12), (1, 0)] [] _)
      refine su_iconst hC dX2_goOn_25 ⟨by decide, by decide⟩ (?_ : SdS X 26 [(0, 12), (1, 0)] [0] _)
      refine su_istore_n (Γ' := [(0, 12), (1, 0)]) hC dX2_goOn_26 rfl (by rw [e2]; decide) (by decide) (?_ : SdS X 27 [(0, 12), (1, 0)] [] _)
      exact SdS.weak (by decide) (S_27)
    · refine su_aload_n hC 12 dX2_goOn_10 rfl (by decide) (by decide) (?_ : SdS X 11 [(0, 12), (1, 0)] [12] _)
      refine su_iload_n hC dX2_goOn_11 rfl (by decide) (?_ : SdS X 12 [(0, 12), (1, 0)] [0, 12] _)
      refine su_inv0v (τ := []) (τr := [0]) (ci := 2) (q := (RX2, TX2, 10)) hC WG (M_X2_advance _) rfl rfl rfl rfl  rfl rfl wl_4_115 wl_4_117 wp_45 wl_1_7 wl_4_118 hd_X2_advance (by rw [e3]; decide) (by decide) dX2_goOn_12 (?_ : SdS X 15 [(0, 12), (1, 0)] [] _)
      refine su_iinc (Γ' := [(0, 12), (1, 0)]) hC dX2_goOn_15 (by decide) (by rw [e2]; decide) (by decide) (?_ : SdS X 18 [(0, 12), (1, 0)] [] _)
      refine su_goto (tgt := 2) hC dX2_goOn_18 rfl (?_ : SdS X 2 [(0, 12), (1, 0)] [] _)
      exact SdS.weak (by decide) h2
  refine (?_ : SdS X 0 [(0, 12)] [] (E_X2_goOn Q))
  unfold E_X2_goOn
  refine su_iconst hC dX2_goOn_0 ⟨by decide, by decide⟩ (?_ : SdS X 1 [(0, 12)] [0] _)
  refine su_istore_n (Γ' := [(0, 12), (1, 0)]) hC dX2_goOn_1 rfl (by rw [e2]; decide) (by decide) (?_ : SdS X 2 [(0, 12), (1, 0)] [] _)
  exact SdS.weak (by decide) (S_2)
theorem wl_2_34 : Cond.methodLink RX2 3 Lib.objectInit ∈ WALL := tb2 (List.mem_of_getElem? (i := 34) rfl) rfl
theorem wl_2_35 : Cond.classLink RX2 19 "[[I" ∈ WALL := tb2 (List.mem_of_getElem? (i := 35) rfl) rfl
theorem hd_X2_init : yX2_init.cls ≠ "java/lang/invoke/MethodHandle" ∧ yX2_init.cls ≠ "java/lang/invoke/VarHandle" ∧ (parseMethodDescriptor yX2_init.desc).map (fun d => d.parameters.length) = some 2 := by decide +kernel
set_option maxRecDepth 100000 in
set_option maxHeartbeats 4000000 in
theorem M_X2_init (l : Launch) : MtS l yX2_init (Cond.code yX2_init cX2_init 3 none :: WALL) { frames := 1, cells := 16, slots := 782, locals := 20 } [12, 11, 117] none T_X2_init := by
  refine MtS.mk (B := E_X2_init) (by decide +kernel) (by decide) (fun _ _ _ hh => hh) ?_
  intro X Q e1 e2 e3 hC hN hT
  subst e1
  have hC : CF X cX2_init RX2 WALL := hC
  refine (?_ : SdS X 0 [(0, 12), (1, 11), (2, 117)] [] (E_X2_init Q))
  unfold E_X2_init
  refine su_aload_n hC 12 dX2_init_0 rfl (by decide) (by decide) (?_ : SdS X 1 [(0, 12), (1, 11), (2, 117)] [12] _)
  refine su_objInit hC (by decide) wl_2_34 wl_1_29 wl_1_30 (by rw [e3]; decide) (by decide) dX2_init_1 (?_ : SdS X 4 [(0, 12), (1, 11), (2, 117)] [] _)
  refine su_aload_n hC 12 dX2_init_4 rfl (by decide) (by decide) (?_ : SdS X 5 [(0, 12), (1, 11), (2, 117)] [12] _)
  refine su_aload_n hC 11 dX2_init_5 rfl (by decide) (by decide) (?_ : SdS X 6 [(0, 12), (1, 11), (2, 117)] [11, 12] _)
  refine su_putR hC (ci := 2) (j := 8) (C := RX2) (T := TX2) (N := 10) tyX2 tyX2_ok nmX2 rfl rfl (by decide) in_X2 rfl rfl wl_2_51 rfl dX2_init_6 (?_ : SdS X 9 [(0, 12), (1, 11), (2, 117)] [] _)
  refine su_aload_n hC 12 dX2_init_9 rfl (by decide) (by decide) (?_ : SdS X 10 [(0, 12), (1, 11), (2, 117)] [12] _)
  refine su_aload_n hC 117 dX2_init_10 rfl (by decide) (by decide) (?_ : SdS X 11 [(0, 12), (1, 11), (2, 117)] [117, 12] _)
  refine su_putR hC (ci := 2) (j := 9) (C := RX2) (T := TX2) (N := 10) tyX2 tyX2_ok nmX2 rfl rfl (by decide) in_X2 rfl rfl wl_2_52 rfl dX2_init_11 (?_ : SdS X 14 [(0, 12), (1, 11), (2, 117)] [] _)
  refine su_aload_n hC 12 dX2_init_14 rfl (by decide) (by decide) (?_ : SdS X 15 [(0, 12), (1, 11), (2, 117)] [12] _)
  refine su_bipush hC dX2_init_15 (by decide) (?_ : SdS X 17 [(0, 12), (1, 11), (2, 117)] [0, 12] _)
  refine su_bipush hC dX2_init_17 (by decide) (?_ : SdS X 19 [(0, 12), (1, 11), (2, 117)] [0, 0, 12] _)
  refine su_mna hC wl_2_35 wl_1_76 (by rw [e3]) (by rw [e3]) dX2_init_19 (?_ : SdS X 23 [(0, 12), (1, 11), (2, 117)] [200, 12] _)
  refine su_putRF hC (ci := 2) (j := 2) (C := RX2) (T := TX2) (N := 10) tyX2 tyX2_ok nmX2 rfl rfl (by decide) in_X2 rfl rfl rfl hN wl_2_40 rfl dX2_init_23 (?_ : SdS X 26 [(0, 12), (1, 11), (2, 117)] [] _)
  refine su_aload_n hC 12 dX2_init_26 rfl (by decide) (by decide) (?_ : SdS X 27 [(0, 12), (1, 11), (2, 117)] [12] _)
  refine su_bipush hC dX2_init_27 (by decide) (?_ : SdS X 29 [(0, 12), (1, 11), (2, 117)] [0, 12] _)
  refine su_newa hC (atype := .int) (e := 0) (List.mem_of_getElem? (i := 0) rfl) (fun C z => by cases z) rfl (by decide) wl_1_76 (by rw [e3]) (by rw [e3]) dX2_init_29 (?_ : SdS X 31 [(0, 12), (1, 11), (2, 117)] [100, 12] _)
  refine su_putRF hC (ci := 2) (j := 3) (C := RX2) (T := TX2) (N := 10) tyX2 tyX2_ok nmX2 rfl rfl (by decide) in_X2 rfl rfl rfl hN wl_2_42 rfl dX2_init_31 (?_ : SdS X 34 [(0, 12), (1, 11), (2, 117)] [] _)
  refine su_aload_n hC 12 dX2_init_34 rfl (by decide) (by decide) (?_ : SdS X 35 [(0, 12), (1, 11), (2, 117)] [12] _)
  refine su_bipush hC dX2_init_35 (by decide) (?_ : SdS X 37 [(0, 12), (1, 11), (2, 117)] [0, 12] _)
  refine su_newa hC (atype := .int) (e := 0) (List.mem_of_getElem? (i := 0) rfl) (fun C z => by cases z) rfl (by decide) wl_1_76 (by rw [e3]) (by rw [e3]) dX2_init_37 (?_ : SdS X 39 [(0, 12), (1, 11), (2, 117)] [100, 12] _)
  refine su_putRF hC (ci := 2) (j := 4) (C := RX2) (T := TX2) (N := 10) tyX2 tyX2_ok nmX2 rfl rfl (by decide) in_X2 rfl rfl rfl hN wl_2_44 rfl dX2_init_39 (?_ : SdS X 42 [(0, 12), (1, 11), (2, 117)] [] _)
  refine su_aload_n hC 12 dX2_init_42 rfl (by decide) (by decide) (?_ : SdS X 43 [(0, 12), (1, 11), (2, 117)] [12] _)
  refine su_bipush hC dX2_init_43 (by decide) (?_ : SdS X 45 [(0, 12), (1, 11), (2, 117)] [0, 12] _)
  refine su_newa hC (atype := .int) (e := 0) (List.mem_of_getElem? (i := 0) rfl) (fun C z => by cases z) rfl (by decide) wl_1_76 (by rw [e3]) (by rw [e3]) dX2_init_45 (?_ : SdS X 47 [(0, 12), (1, 11), (2, 117)] [100, 12] _)
  refine su_putRF hC (ci := 2) (j := 5) (C := RX2) (T := TX2) (N := 10) tyX2 tyX2_ok nmX2 rfl rfl (by decide) in_X2 rfl rfl rfl hN wl_2_46 rfl dX2_init_47 (?_ : SdS X 50 [(0, 12), (1, 11), (2, 117)] [] _)
  refine su_aload_n hC 12 dX2_init_50 rfl (by decide) (by decide) (?_ : SdS X 51 [(0, 12), (1, 11), (2, 117)] [12] _)
  refine su_bipush hC dX2_init_51 (by decide) (?_ : SdS X 53 [(0, 12), (1, 11), (2, 117)] [0, 12] _)
  refine su_newa hC (atype := .int) (e := 0) (List.mem_of_getElem? (i := 0) rfl) (fun C z => by cases z) rfl (by decide) wl_1_76 (by rw [e3]) (by rw [e3]) dX2_init_53 (?_ : SdS X 55 [(0, 12), (1, 11), (2, 117)] [100, 12] _)
  refine su_putRF hC (ci := 2) (j := 6) (C := RX2) (T := TX2) (N := 10) tyX2 tyX2_ok nmX2 rfl rfl (by decide) in_X2 rfl rfl rfl hN wl_2_48 rfl dX2_init_55 (?_ : SdS X 58 [(0, 12), (1, 11), (2, 117)] [] _)
  refine su_aload_n hC 12 dX2_init_58 rfl (by decide) (by decide) (?_ : SdS X 59 [(0, 12), (1, 11), (2, 117)] [12] _)
  refine su_bipush hC dX2_init_59 (by decide) (?_ : SdS X 61 [(0, 12), (1, 11), (2, 117)] [0, 12] _)
  refine su_newa hC (atype := .int) (e := 0) (List.mem_of_getElem? (i := 0) rfl) (fun C z => by cases z) rfl (by decide) wl_1_76 (by rw [e3]) (by rw [e3]) dX2_init_61 (?_ : SdS X 63 [(0, 12), (1, 11), (2, 117)] [100, 12] _)
  refine su_putRF hC (ci := 2) (j := 7) (C := RX2) (T := TX2) (N := 10) tyX2 tyX2_ok nmX2 rfl rfl (by decide) in_X2 rfl rfl rfl hN wl_2_50 rfl dX2_init_63 (?_ : SdS X 66 [(0, 12), (1, 11), (2, 117)] [] _)
  exact su_return hC hT dX2_init_66
theorem wl_3_139 : Cond.methodLink RX3 83 yJ9_min_7cf53 ∈ WALL := tb3 (List.mem_of_getElem? (i := 139) rfl) rfl
theorem wl_3_142 : Cond.methodLink RX3 89 yJ9_max_7cf53 ∈ WALL := tb3 (List.mem_of_getElem? (i := 142) rfl) rfl
theorem wl_3_143 : Cond.static yJ9_max_7cf53 ∈ WALL := tb3 (List.mem_of_getElem? (i := 143) rfl) rfl
theorem wl_3_144 : Cond.code yJ9_max_7cf53 cJ9_max_7cf53 2 (some .int) ∈ WALL := tb3 (List.mem_of_getElem? (i := 144) rfl) rfl
theorem wl_1_206 : Cond.fieldLink RX3 9 "NarrowRings$Finder" "city" "LNarrowRings$City;" ∈ WALL := tb1 (List.mem_of_getElem? (i := 206) rfl) rfl
theorem wl_3_145 : Cond.methodLink RX3 92 yX1_ringBears ∈ WALL := tb3 (List.mem_of_getElem? (i := 145) rfl) rfl
theorem hd_X3_allBear : yX3_allBear.cls ≠ "java/lang/invoke/MethodHandle" ∧ yX3_allBear.cls ≠ "java/lang/invoke/VarHandle" ∧ (parseMethodDescriptor yX3_allBear.desc).map (fun d => d.parameters.length) = some 3 := by decide +kernel
set_option maxRecDepth 100000 in
set_option maxHeartbeats 4000000 in
theorem M_X3_allBear (l : Launch) : MtS l yX3_allBear (Cond.code yX3_allBear cX3_allBear 5 (some .boolean) :: WALL) { frames := 2, cells := 0, slots := 0, locals := 46 } [13, 16, 0, 0] (some 0) T_X3_allBear := by
  refine MtS.mk (B := E_X3_allBear) (by decide +kernel) (by decide) (fun _ _ _ hh => hh) ?_
  intro X Q e1 e2 e3 hC hN hT
  subst e1
  have hC : CF X cX3_allBear RX3 WALL := hC
  have S_7 : SdS X 7 [(0, 13), (1, 16), (2, 0), (3, 0), (4, 0)] [] (L_X3_allBear_7 Q) := by
    unfold L_X3_allBear_7
    refine SdS.loop (fun k7 h7 => ?_)
    refine su_iload hC dX3_allBear_7 (by decide) (?_ : SdS X 9 [(0, 13), (1, 16), (2, 0), (3, 0), (4, 0)] [0] _)
    refine su_iload_n hC dX3_allBear_9 rfl (by decide) (?_ : SdS X 10 [(0, 13), (1, 16), (2, 0), (3, 0), (4, 0)] [0, 0] _)
    refine su_iload_n hC dX3_allBear_10 rfl (by decide) (?_ : SdS X 11 [(0, 13), (1, 16), (2, 0), (3, 0), (4, 0)] [0, 0, 0] _)
    refine su_imax hC wl_3_142 wl_3_143 wl_1_16 wl_3_144 (by rw [e3]; decide) (by decide) dX3_allBear_11 (?_ : SdS X 14 [(0, 13), (1, 16), (2, 0), (3, 0), (4, 0)] [0, 0] _)
    refine su_icmp_gt (tgt := 38) hC dX3_allBear_14 rfl (?_ : SdS X 38 [(0, 13), (1, 16), (2, 0), (3, 0), (4, 0)] [] _) (?_ : SdS X 17 [(0, 13), (1, 16), (2, 0), (3, 0), (4, 0)] [] _)
    · refine su_iconst hC dX3_allBear_38 ⟨by decide, by decide⟩ (?_ : SdS X 39 [(0, 13), (1, 16), (2, 0), (3, 0), (4, 0)] [0] _)
      exact su_zreturn hC hT dX3_allBear_39
    · refine su_aload_n hC 13 dX3_allBear_17 rfl (by decide) (by decide) (?_ : SdS X 18 [(0, 13), (1, 16), (2, 0), (3, 0), (4, 0)] [13] _)
      refine su_getR hC (ci := 3) (j := 0) (C := RX3) (T := TX3) (N := 6) rfl rfl (by decide) in_X3 wl_1_206 rfl dX3_allBear_18 (?_ : SdS X 21 [(0, 13), (1, 16), (2, 0), (3, 0), (4, 0)] [11] _)
      refine su_aload_n hC 16 dX3_allBear_21 rfl (by decide) (by decide) (?_ : SdS X 22 [(0, 13), (1, 16), (2, 0), (3, 0), (4, 0)] [16, 11] _)
      refine su_iload hC dX3_allBear_22 (by decide) (?_ : SdS X 24 [(0, 13), (1, 16), (2, 0), (3, 0), (4, 0)] [0, 16, 11] _)
      refine su_inv0 (τ := []) (τr := [16, 0]) (ci := 1) (q := (RX1, TX1, 12)) hC WG (M_X1_ringBears _) rfl rfl rfl rfl  rfl rfl wl_3_145 wl_3_146 wl_3_147 wl_1_2 wl_3_148 hd_X1_ringBears (by rw [e3]; decide) (by decide) dX3_allBear_24 (?_ : SdS X 27 [(0, 13), (1, 16), (2, 0), (3, 0), (4, 0)] [0] _)
      refine su_if_ne (tgt := 32) hC dX3_allBear_27 rfl (?_ : SdS X 32 [(0, 13), (1, 16), (2, 0), (3, 0), (4, 0)] [] _) (?_ : SdS X 30 [(0, 13), (1, 16), (2, 0), (3, 0), (4, 0)] [] _)
      · refine su_iinc (Γ' := [(0, 13), (1, 16), (2, 0), (3, 0), (4, 0)]) hC dX3_allBear_32 (by decide) (by rw [e2]; decide) (by decide) (?_ : SdS X 35 [(0, 13), (1, 16), (2, 0), (3, 0), (4, 0)] [] _)
        refine su_goto (tgt := 7) hC dX3_allBear_35 rfl (?_ : SdS X 7 [(0, 13), (1, 16), (2, 0), (3, 0), (4, 0)] [] _)
        exact SdS.weak (by decide) h7
      · refine su_iconst hC dX3_allBear_30 ⟨by decide, by decide⟩ (?_ : SdS X 31 [(0, 13), (1, 16), (2, 0), (3, 0), (4, 0)] [0] _)
        exact su_zreturn hC hT dX3_allBear_31
  refine (?_ : SdS X 0 [(0, 13), (1, 16), (2, 0), (3, 0)] [] (E_X3_allBear Q))
  unfold E_X3_allBear
  refine su_iload_n hC dX3_allBear_0 rfl (by decide) (?_ : SdS X 1 [(0, 13), (1, 16), (2, 0), (3, 0)] [0] _)
  refine su_iload_n hC dX3_allBear_1 rfl (by decide) (?_ : SdS X 2 [(0, 13), (1, 16), (2, 0), (3, 0)] [0, 0] _)
  refine su_imin hC wl_3_139 wl_3_140 wl_1_16 wl_3_141 (by rw [e3]; decide) (by decide) dX3_allBear_2 (?_ : SdS X 5 [(0, 13), (1, 16), (2, 0), (3, 0)] [0] _)
  refine su_istore (Γ' := [(0, 13), (1, 16), (2, 0), (3, 0), (4, 0)]) hC dX3_allBear_5 (by rw [e2]; decide) (by decide) (?_ : SdS X 7 [(0, 13), (1, 16), (2, 0), (3, 0), (4, 0)] [] _)
  exact SdS.weak (by decide) (S_7)
theorem wl_1_84 : Cond.fieldLink RX3 112 "NarrowRings$City" "gates" "I" ∈ WALL := tb1 (List.mem_of_getElem? (i := 84) rfl) rfl
theorem wl_1_105 : Cond.fieldLink RX3 123 "NarrowRings$City" "gate" "[[I" ∈ WALL := tb1 (List.mem_of_getElem? (i := 105) rfl) rfl
theorem wl_1_211 : Cond.fieldLink RX3 24 "NarrowRings$Finder" "next" "[I" ∈ WALL := tb1 (List.mem_of_getElem? (i := 211) rfl) rfl
theorem wl_1_210 : Cond.fieldLink RX3 21 "NarrowRings$Finder" "rest" "[I" ∈ WALL := tb1 (List.mem_of_getElem? (i := 210) rfl) rfl
theorem wl_1_209 : Cond.fieldLink RX3 17 "NarrowRings$Finder" "price" "[I" ∈ WALL := tb1 (List.mem_of_getElem? (i := 209) rfl) rfl
theorem wl_3_188 : Cond.constant RX3 59 (Int32.ofInt 1000000000) ∈ WALL := tb3 (List.mem_of_getElem? (i := 188) rfl) rfl
theorem hd_X3_restFromLast : yX3_restFromLast.cls ≠ "java/lang/invoke/MethodHandle" ∧ yX3_restFromLast.cls ≠ "java/lang/invoke/VarHandle" ∧ (parseMethodDescriptor yX3_restFromLast.desc).map (fun d => d.parameters.length) = some 2 := by decide +kernel
set_option maxRecDepth 100000 in
set_option maxHeartbeats 4000000 in
theorem M_X3_restFromLast (l : Launch) : MtS l yX3_restFromLast (Cond.code yX3_restFromLast cX3_restFromLast 4 none :: WALL) { frames := 1, cells := 0, slots := 0, locals := 22 } [13, 0, 0] none T_X3_restFromLast := by
  refine MtS.mk (B := E_X3_restFromLast) (by decide +kernel) (by decide) (fun _ _ _ hh => hh) ?_
  intro X Q e1 e2 e3 hC hN hT
  subst e1
  have hC : CF X cX3_restFromLast RX3 WALL := hC
  have S_79 : ∀ (k2 : xK), SdS X 2 [(0, 13), (1, 0), (2, 0), (3, 0)] [] k2 → SdS X 79 [(0, 13), (1, 0), (2, 0), (3, 0)] [] (B_X3_restFromLast_79 Q k2) := by
    intro k2 h2
    unfold B_X3_restFromLast_79
    refine su_iinc (Γ' := [(0, 13), (1, 0), (2, 0), (3, 0)]) hC dX3_restFromLast_79 (by decide) (by rw [e2]; decide) (by decide) (?_ : SdS X 82 [(0, 13), (1, 0), (2, 0), (3, 0)] [] _)
    refine su_goto (tgt := 2) hC dX3_restFromLast_82 rfl (?_ : SdS X 2 [(0, 13), (1, 0), (2, 0), (3, 0)] [] _)
    exact SdS.weak (by decide) h2
  have S_78 : ∀ (k2 : xK), SdS X 2 [(0, 13), (1, 0), (2, 0), (3, 0)] [] k2 → SdS X 78 [(0, 13), (1, 0), (2, 0), (3, 0)] [0, 0, 100] (B_X3_restFromLast_78 Q k2) := by
    intro k2 h2
    unfold B_X3_restFromLast_78
    refine su_iastore hC dX3_restFromLast_78 (?_ : SdS X 79 [(0, 13), (1, 0), (2, 0), (3, 0)] [] _)
    exact SdS.weak (by decide) (S_79 k2 h2)
  have S_2 : SdS X 2 [(0, 13), (1, 0), (2, 0), (3, 0)] [] (L_X3_restFromLast_2 Q) := by
    unfold L_X3_restFromLast_2
    refine SdS.loop (fun k2 h2 => ?_)
    refine su_iload_n hC dX3_restFromLast_2 rfl (by decide) (?_ : SdS X 3 [(0, 13), (1, 0), (2, 0), (3, 0)] [0] _)
    refine su_aload_n hC 13 dX3_restFromLast_3 rfl (by decide) (by decide) (?_ : SdS X 4 [(0, 13), (1, 0), (2, 0), (3, 0)] [13, 0] _)
    refine su_getR hC (ci := 3) (j := 0) (C := RX3) (T := TX3) (N := 6) rfl rfl (by decide) in_X3 wl_1_206 rfl dX3_restFromLast_4 (?_ : SdS X 7 [(0, 13), (1, 0), (2, 0), (3, 0)] [11, 0] _)
    refine su_getF hC (ci := 1) (j := 1) (C := RX1) (T := TX1) (N := 12) rfl rfl (by decide) in_X1 wl_1_84 rfl dX3_restFromLast_7 (?_ : SdS X 10 [(0, 13), (1, 0), (2, 0), (3, 0)] [0, 0] _)
    refine su_icmp_ge (tgt := 85) hC dX3_restFromLast_10 rfl (?_ : SdS X 85 [(0, 13), (1, 0), (2, 0), (3, 0)] [] _) (?_ : SdS X 13 [(0, 13), (1, 0), (2, 0), (3, 0)] [] _)
    · exact su_return hC hT dX3_restFromLast_85
    · refine su_aload_n hC 13 dX3_restFromLast_13 rfl (by decide) (by decide) (?_ : SdS X 14 [(0, 13), (1, 0), (2, 0), (3, 0)] [13] _)
      refine su_getR hC (ci := 3) (j := 0) (C := RX3) (T := TX3) (N := 6) rfl rfl (by decide) in_X3 wl_1_206 rfl dX3_restFromLast_14 (?_ : SdS X 17 [(0, 13), (1, 0), (2, 0), (3, 0)] [11] _)
      refine su_getR hC (ci := 1) (j := 6) (C := RX1) (T := TX1) (N := 12) rfl rfl (by decide) in_X1 wl_1_105 rfl dX3_restFromLast_17 (?_ : SdS X 20 [(0, 13), (1, 0), (2, 0), (3, 0)] [200] _)
      refine su_iload_n hC dX3_restFromLast_20 rfl (by decide) (?_ : SdS X 21 [(0, 13), (1, 0), (2, 0), (3, 0)] [0, 200] _)
      refine su_aaload (e := 100) hC (List.mem_of_getElem? (i := 7) rfl) rfl rfl rfl dX3_restFromLast_21 (?_ : SdS X 22 [(0, 13), (1, 0), (2, 0), (3, 0)] [100] _)
      refine su_iconst hC dX3_restFromLast_22 ⟨by decide, by decide⟩ (?_ : SdS X 23 [(0, 13), (1, 0), (2, 0), (3, 0)] [0, 100] _)
      refine su_iaload hC dX3_restFromLast_23 (?_ : SdS X 24 [(0, 13), (1, 0), (2, 0), (3, 0)] [0] _)
      refine su_iload_n hC dX3_restFromLast_24 rfl (by decide) (?_ : SdS X 25 [(0, 13), (1, 0), (2, 0), (3, 0)] [0, 0] _)
      refine su_icmp_ne (tgt := 79) hC dX3_restFromLast_25 rfl (?_ : SdS X 79 [(0, 13), (1, 0), (2, 0), (3, 0)] [] _) (?_ : SdS X 28 [(0, 13), (1, 0), (2, 0), (3, 0)] [] _)
      · exact SdS.weak (by decide) (S_79 k2 h2)
      · refine su_aload_n hC 13 dX3_restFromLast_28 rfl (by decide) (by decide) (?_ : SdS X 29 [(0, 13), (1, 0), (2, 0), (3, 0)] [13] _)
        refine su_getR hC (ci := 3) (j := 5) (C := RX3) (T := TX3) (N := 6) rfl rfl (by decide) in_X3 wl_1_211 rfl dX3_restFromLast_29 (?_ : SdS X 32 [(0, 13), (1, 0), (2, 0), (3, 0)] [100] _)
        refine su_iload_n hC dX3_restFromLast_32 rfl (by decide) (?_ : SdS X 33 [(0, 13), (1, 0), (2, 0), (3, 0)] [0, 100] _)
        refine su_iconst hC dX3_restFromLast_33 ⟨by decide, by decide⟩ (?_ : SdS X 34 [(0, 13), (1, 0), (2, 0), (3, 0)] [0, 0, 100] _)
        refine su_iastore hC dX3_restFromLast_34 (?_ : SdS X 35 [(0, 13), (1, 0), (2, 0), (3, 0)] [] _)
        refine su_aload_n hC 13 dX3_restFromLast_35 rfl (by decide) (by decide) (?_ : SdS X 36 [(0, 13), (1, 0), (2, 0), (3, 0)] [13] _)
        refine su_getR hC (ci := 3) (j := 4) (C := RX3) (T := TX3) (N := 6) rfl rfl (by decide) in_X3 wl_1_210 rfl dX3_restFromLast_36 (?_ : SdS X 39 [(0, 13), (1, 0), (2, 0), (3, 0)] [100] _)
        refine su_iload_n hC dX3_restFromLast_39 rfl (by decide) (?_ : SdS X 40 [(0, 13), (1, 0), (2, 0), (3, 0)] [0, 100] _)
        refine su_aload_n hC 13 dX3_restFromLast_40 rfl (by decide) (by decide) (?_ : SdS X 41 [(0, 13), (1, 0), (2, 0), (3, 0)] [13, 0, 100] _)
        refine su_getR hC (ci := 3) (j := 3) (C := RX3) (T := TX3) (N := 6) rfl rfl (by decide) in_X3 wl_1_209 rfl dX3_restFromLast_41 (?_ : SdS X 44 [(0, 13), (1, 0), (2, 0), (3, 0)] [100, 0, 100] _)
        refine su_iload_n hC dX3_restFromLast_44 rfl (by decide) (?_ : SdS X 45 [(0, 13), (1, 0), (2, 0), (3, 0)] [0, 100, 0, 100] _)
        refine su_iaload hC dX3_restFromLast_45 (?_ : SdS X 46 [(0, 13), (1, 0), (2, 0), (3, 0)] [0, 0, 100] _)
        refine su_ldc hC wl_3_188 dX3_restFromLast_46 ⟨by decide, by decide⟩ (?_ : SdS X 48 [(0, 13), (1, 0), (2, 0), (3, 0)] [0, 0, 0, 100] _)
        refine su_icmp_lt (tgt := 56) hC dX3_restFromLast_48 rfl (?_ : SdS X 56 [(0, 13), (1, 0), (2, 0), (3, 0)] [0, 100] _) (?_ : SdS X 51 [(0, 13), (1, 0), (2, 0), (3, 0)] [0, 100] _)
        · refine su_aload_n hC 13 dX3_restFromLast_56 rfl (by decide) (by decide) (?_ : SdS X 57 [(0, 13), (1, 0), (2, 0), (3, 0)] [13, 0, 100] _)
          refine su_getR hC (ci := 3) (j := 3) (C := RX3) (T := TX3) (N := 6) rfl rfl (by decide) in_X3 wl_1_209 rfl dX3_restFromLast_57 (?_ : SdS X 60 [(0, 13), (1, 0), (2, 0), (3, 0)] [100, 0, 100] _)
          refine su_iload_n hC dX3_restFromLast_60 rfl (by decide) (?_ : SdS X 61 [(0, 13), (1, 0), (2, 0), (3, 0)] [0, 100, 0, 100] _)
          refine su_iaload hC dX3_restFromLast_61 (?_ : SdS X 62 [(0, 13), (1, 0), (2, 0), (3, 0)] [0, 0, 100] _)
          refine su_aload_n hC 13 dX3_restFromLast_62 rfl (by decide) (by decide) (?_ : SdS X 63 [(0, 13), (1, 0), (2, 0), (3, 0)] [13, 0, 0, 100] _)
          refine su_getR hC (ci := 3) (j := 0) (C := RX3) (T := TX3) (N := 6) rfl rfl (by decide) in_X3 wl_1_206 rfl dX3_restFromLast_63 (?_ : SdS X 66 [(0, 13), (1, 0), (2, 0), (3, 0)] [11, 0, 0, 100] _)
          refine su_getR hC (ci := 1) (j := 6) (C := RX1) (T := TX1) (N := 12) rfl rfl (by decide) in_X1 wl_1_105 rfl dX3_restFromLast_66 (?_ : SdS X 69 [(0, 13), (1, 0), (2, 0), (3, 0)] [200, 0, 0, 100] _)
          refine su_iload_n hC dX3_restFromLast_69 rfl (by decide) (?_ : SdS X 70 [(0, 13), (1, 0), (2, 0), (3, 0)] [0, 200, 0, 0, 100] _)
          refine su_aaload (e := 100) hC (List.mem_of_getElem? (i := 7) rfl) rfl rfl rfl dX3_restFromLast_70 (?_ : SdS X 71 [(0, 13), (1, 0), (2, 0), (3, 0)] [100, 0, 0, 100] _)
          refine su_iconst hC dX3_restFromLast_71 ⟨by decide, by decide⟩ (?_ : SdS X 72 [(0, 13), (1, 0), (2, 0), (3, 0)] [0, 100, 0, 0, 100] _)
          refine su_iaload hC dX3_restFromLast_72 (?_ : SdS X 73 [(0, 13), (1, 0), (2, 0), (3, 0)] [0, 0, 0, 100] _)
          refine su_iload_n hC dX3_restFromLast_73 rfl (by decide) (?_ : SdS X 74 [(0, 13), (1, 0), (2, 0), (3, 0)] [0, 0, 0, 0, 100] _)
          refine su_invs (τ := [0, 0, 100]) (τs := [0, 0]) hC true "NarrowRings" WG (M_X8_apart _) rfl rfl rfl rfl (by decide) wl_3_194 wl_1_1 wl_3_195 hd_X8_apart (by rw [e3]; decide) (by decide) dX3_restFromLast_74 (?_ : SdS X 77 [(0, 13), (1, 0), (2, 0), (3, 0)] [0, 0, 0, 100] _)
          refine su_iadd hC dX3_restFromLast_77 (?_ : SdS X 78 [(0, 13), (1, 0), (2, 0), (3, 0)] [0, 0, 100] _)
          exact SdS.weak (by decide) (S_78 k2 h2)
        · refine su_ldc hC wl_3_188 dX3_restFromLast_51 ⟨by decide, by decide⟩ (?_ : SdS X 53 [(0, 13), (1, 0), (2, 0), (3, 0)] [0, 0, 100] _)
          refine su_goto (tgt := 78) hC dX3_restFromLast_53 rfl (?_ : SdS X 78 [(0, 13), (1, 0), (2, 0), (3, 0)] [0, 0, 100] _)
          exact SdS.weak (by decide) (S_78 k2 h2)
  refine (?_ : SdS X 0 [(0, 13), (1, 0), (2, 0)] [] (E_X3_restFromLast Q))
  unfold E_X3_restFromLast
  refine su_iconst hC dX3_restFromLast_0 ⟨by decide, by decide⟩ (?_ : SdS X 1 [(0, 13), (1, 0), (2, 0)] [0] _)
  refine su_istore_n (Γ' := [(0, 13), (1, 0), (2, 0), (3, 0)]) hC dX3_restFromLast_1 rfl (by rw [e2]; decide) (by decide) (?_ : SdS X 2 [(0, 13), (1, 0), (2, 0), (3, 0)] [] _)
  exact SdS.weak (by decide) (S_2)

theorem wl_1_59 : Cond.fieldLink RX6 23 "NarrowRings$Thing" "tilts" "Z" ∈ WALL := tb1 (List.mem_of_getElem? (i := 59) rfl) rfl
theorem wl_1_57 : Cond.fieldLink RX6 19 "NarrowRings$Thing" "turns" "Z" ∈ WALL := tb1 (List.mem_of_getElem? (i := 57) rfl) rfl
theorem wl_1_48 : Cond.fieldLink RX6 13 "NarrowRings$Thing" "wide" "[I" ∈ WALL := tb1 (List.mem_of_getElem? (i := 48) rfl) rfl
theorem wl_1_101 : Cond.fieldLink RX1 17 "NarrowRings$City" "gate" "[[I" ∈ WALL := tb1 (List.mem_of_getElem? (i := 101) rfl) rfl
theorem wl_1_99 : Cond.fieldLink RX1 11 "NarrowRings$City" "width" "[I" ∈ WALL := tb1 (List.mem_of_getElem? (i := 99) rfl) rfl
theorem wl_1_49 : Cond.fieldLink RX1 64 "NarrowRings$Thing" "wide" "[I" ∈ WALL := tb1 (List.mem_of_getElem? (i := 49) rfl) rfl
theorem wl_1_47 : Cond.fieldLink RX1 78 "NarrowRings$Thing" "length" "[I" ∈ WALL := tb1 (List.mem_of_getElem? (i := 47) rfl) rfl
theorem wl_1_51 : Cond.fieldLink RX1 81 "NarrowRings$Thing" "high" "[I" ∈ WALL := tb1 (List.mem_of_getElem? (i := 51) rfl) rfl
theorem wl_3_169 : Cond.methodLink RX1 84 yX1_meets ∈ WALL := tb3 (List.mem_of_getElem? (i := 169) rfl) rfl
theorem wl_3_170 : Cond.instanceMethod yX1_meets ∈ WALL := tb3 (List.mem_of_getElem? (i := 170) rfl) rfl
theorem wl_3_171 : Cond.selects RX1 yX1_meets yX1_meets ∈ WALL := tb3 (List.mem_of_getElem? (i := 171) rfl) rfl
theorem wl_1_2 : Cond.initialized RX1 ∈ WALL := tb1 (List.mem_of_getElem? (i := 2) rfl) rfl
theorem wl_3_172 : Cond.code yX1_meets cX1_meets 9 (some .int) ∈ WALL := tb3 (List.mem_of_getElem? (i := 172) rfl) rfl
theorem wl_3_173 : Cond.methodLink RX1 88 yX6_canLie ∈ WALL := tb3 (List.mem_of_getElem? (i := 173) rfl) rfl
theorem wl_3_174 : Cond.instanceMethod yX6_canLie ∈ WALL := tb3 (List.mem_of_getElem? (i := 174) rfl) rfl
theorem wl_3_175 : Cond.selects RX6 yX6_canLie yX6_canLie ∈ WALL := tb3 (List.mem_of_getElem? (i := 175) rfl) rfl
theorem wl_1_3 : Cond.initialized RX6 ∈ WALL := tb1 (List.mem_of_getElem? (i := 3) rfl) rfl
theorem wl_3_176 : Cond.code yX6_canLie cX6_canLie 2 (some .boolean) ∈ WALL := tb3 (List.mem_of_getElem? (i := 176) rfl) rfl
theorem wl_3_177 : Cond.methodLink RX1 92 yJ9_min_7cf53 ∈ WALL := tb3 (List.mem_of_getElem? (i := 177) rfl) rfl
theorem wl_3_140 : Cond.static yJ9_min_7cf53 ∈ WALL := tb3 (List.mem_of_getElem? (i := 140) rfl) rfl
theorem wl_1_16 : Cond.initialized RJ9 ∈ WALL := tb1 (List.mem_of_getElem? (i := 16) rfl) rfl
theorem wl_3_141 : Cond.code yJ9_min_7cf53 cJ9_min_7cf53 2 (some .int) ∈ WALL := tb3 (List.mem_of_getElem? (i := 141) rfl) rfl
theorem wl_3_165 : Cond.methodLink RX1 98 yX1_barOf ∈ WALL := tb3 (List.mem_of_getElem? (i := 165) rfl) rfl
theorem wl_3_166 : Cond.instanceMethod yX1_barOf ∈ WALL := tb3 (List.mem_of_getElem? (i := 166) rfl) rfl
theorem wl_3_167 : Cond.selects RX1 yX1_barOf yX1_barOf ∈ WALL := tb3 (List.mem_of_getElem? (i := 167) rfl) rfl
theorem wl_3_168 : Cond.code yX1_barOf cX1_barOf 5 (some .int) ∈ WALL := tb3 (List.mem_of_getElem? (i := 168) rfl) rfl
theorem wl_1_82 : Cond.fieldLink RX1 43 "NarrowRings$City" "gates" "I" ∈ WALL := tb1 (List.mem_of_getElem? (i := 82) rfl) rfl
theorem wl_4_54 : Cond.methodLink RX1 119 yX1_letsThrough ∈ WALL := tb4 (List.mem_of_getElem? (i := 54) rfl) rfl
theorem wl_3_162 : Cond.instanceMethod yX1_letsThrough ∈ WALL := tb3 (List.mem_of_getElem? (i := 162) rfl) rfl
theorem wl_3_163 : Cond.selects RX1 yX1_letsThrough yX1_letsThrough ∈ WALL := tb3 (List.mem_of_getElem? (i := 163) rfl) rfl
theorem wl_3_164 : Cond.code yX1_letsThrough cX1_letsThrough 3 (some .boolean) ∈ WALL := tb3 (List.mem_of_getElem? (i := 164) rfl) rfl
theorem hd_X8_within : yX8_within.cls ≠ "java/lang/invoke/MethodHandle" ∧ yX8_within.cls ≠ "java/lang/invoke/VarHandle" ∧ (parseMethodDescriptor yX8_within.desc).map (fun d => d.parameters.length) = some 2 := by decide +kernel
set_option maxRecDepth 100000 in
set_option maxHeartbeats 4000000 in
theorem M_X8_within (l : Launch) : Mt l yX8_within (Cond.code yX8_within cX8_within 2 (some .boolean) :: WALL) { frames := 0, cells := 0, slots := 0, locals := 0 } [0, 0] (some 0) T_X8_within := by
  refine Mt.mk (B := E_X8_within) (by decide +kernel) (by decide) (fun _ _ _ hh => hh) ?_
  intro X Q e1 e2 e3 hC hN hT
  subst e1
  have hC : CF X cX8_within RX8 WALL := hC
  have S_14 : Sd X 14 [(0, 0), (1, 0)] [0] (B_X8_within_14 Q) := by
    unfold B_X8_within_14
    exact sd_zreturn hC hT dX8_within_14
  have S_13 : Sd X 13 [(0, 0), (1, 0)] [] (B_X8_within_13 Q) := by
    unfold B_X8_within_13
    refine sd_iconst hC dX8_within_13 ⟨by decide, by decide⟩ (?_ : Sd X 14 [(0, 0), (1, 0)] [0] _)
    exact Sd.weak (by decide) (S_14)
  refine (?_ : Sd X 0 [(0, 0), (1, 0)] [] (E_X8_within Q))
  unfold E_X8_within
  refine sd_iload_n hC dX8_within_0 rfl (by decide) (?_ : Sd X 1 [(0, 0), (1, 0)] [0] _)
  refine sd_if_lt (tgt := 13) hC dX8_within_1 rfl (?_ : Sd X 13 [(0, 0), (1, 0)] [] _) (?_ : Sd X 4 [(0, 0), (1, 0)] [] _)
  · exact Sd.weak (by decide) (S_13)
  · refine sd_iload_n hC dX8_within_4 rfl (by decide) (?_ : Sd X 5 [(0, 0), (1, 0)] [0] _)
    refine sd_iload_n hC dX8_within_5 rfl (by decide) (?_ : Sd X 6 [(0, 0), (1, 0)] [0, 0] _)
    refine sd_icmp_ge (tgt := 13) hC dX8_within_6 rfl (?_ : Sd X 13 [(0, 0), (1, 0)] [] _) (?_ : Sd X 9 [(0, 0), (1, 0)] [] _)
    · exact Sd.weak (by decide) (S_13)
    · refine sd_iconst hC dX8_within_9 ⟨by decide, by decide⟩ (?_ : Sd X 10 [(0, 0), (1, 0)] [0] _)
      refine sd_goto (tgt := 14) hC dX8_within_10 rfl (?_ : Sd X 14 [(0, 0), (1, 0)] [0] _)
      exact Sd.weak (by decide) (S_14)
theorem hd_X6_canLie : yX6_canLie.cls ≠ "java/lang/invoke/MethodHandle" ∧ yX6_canLie.cls ≠ "java/lang/invoke/VarHandle" ∧ (parseMethodDescriptor yX6_canLie.desc).map (fun d => d.parameters.length) = some 1 := by decide +kernel
set_option maxRecDepth 100000 in
set_option maxHeartbeats 4000000 in
theorem M_X6_canLie (l : Launch) : Mt l yX6_canLie (Cond.code yX6_canLie cX6_canLie 2 (some .boolean) :: WALL) { frames := 0, cells := 0, slots := 0, locals := 0 } [16, 0] (some 0) T_X6_canLie := by
  refine Mt.mk (B := E_X6_canLie) (by decide +kernel) (by decide) (fun _ _ _ hh => hh) ?_
  intro X Q e1 e2 e3 hC hN hT
  subst e1
  have hC : CF X cX6_canLie RX6 WALL := hC
  have S_33 : Sd X 33 [(0, 16), (1, 0)] [0] (B_X6_canLie_33 Q) := by
    unfold B_X6_canLie_33
    exact sd_zreturn hC hT dX6_canLie_33
  have S_28 : Sd X 28 [(0, 16), (1, 0)] [] (B_X6_canLie_28 Q) := by
    unfold B_X6_canLie_28
    refine sd_iconst hC dX6_canLie_28 ⟨by decide, by decide⟩ (?_ : Sd X 29 [(0, 16), (1, 0)] [0] _)
    refine sd_goto (tgt := 33) hC dX6_canLie_29 rfl (?_ : Sd X 33 [(0, 16), (1, 0)] [0] _)
    exact Sd.weak (by decide) (S_33)
  have S_32 : Sd X 32 [(0, 16), (1, 0)] [] (B_X6_canLie_32 Q) := by
    unfold B_X6_canLie_32
    refine sd_iconst hC dX6_canLie_32 ⟨by decide, by decide⟩ (?_ : Sd X 33 [(0, 16), (1, 0)] [0] _)
    exact Sd.weak (by decide) (S_33)
  have S_16 : Sd X 16 [(0, 16), (1, 0)] [] (B_X6_canLie_16 Q) := by
    unfold B_X6_canLie_16
    refine sd_iload_n hC dX6_canLie_16 rfl (by decide) (?_ : Sd X 17 [(0, 16), (1, 0)] [0] _)
    refine sd_iconst hC dX6_canLie_17 ⟨by decide, by decide⟩ (?_ : Sd X 18 [(0, 16), (1, 0)] [0, 0] _)
    refine sd_icmp_ne (tgt := 32) hC dX6_canLie_18 rfl (?_ : Sd X 32 [(0, 16), (1, 0)] [] _) (?_ : Sd X 21 [(0, 16), (1, 0)] [] _)
    · exact Sd.weak (by decide) (S_32)
    · refine sd_aload_n hC 16 dX6_canLie_21 rfl (by decide) (by decide) (?_ : Sd X 22 [(0, 16), (1, 0)] [16] _)
      refine sd_get hC (ci := 6) (j := 6) (C := RX6) (T := TX6) (N := 7) rfl rfl (by decide) in_X6 wl_1_59 dX6_canLie_22 (?_ : Sd X 25 [(0, 16), (1, 0)] [0] _)
      refine sd_if_eq (tgt := 32) hC dX6_canLie_25 rfl (?_ : Sd X 32 [(0, 16), (1, 0)] [] _) (?_ : Sd X 28 [(0, 16), (1, 0)] [] _)
      · exact Sd.weak (by decide) (S_32)
      · exact Sd.weak (by decide) (S_28)
  refine (?_ : Sd X 0 [(0, 16), (1, 0)] [] (E_X6_canLie Q))
  unfold E_X6_canLie
  refine sd_iload_n hC dX6_canLie_0 rfl (by decide) (?_ : Sd X 1 [(0, 16), (1, 0)] [0] _)
  refine sd_if_eq (tgt := 28) hC dX6_canLie_1 rfl (?_ : Sd X 28 [(0, 16), (1, 0)] [] _) (?_ : Sd X 4 [(0, 16), (1, 0)] [] _)
  · exact Sd.weak (by decide) (S_28)
  · refine sd_iload_n hC dX6_canLie_4 rfl (by decide) (?_ : Sd X 5 [(0, 16), (1, 0)] [0] _)
    refine sd_iconst hC dX6_canLie_5 ⟨by decide, by decide⟩ (?_ : Sd X 6 [(0, 16), (1, 0)] [0, 0] _)
    refine sd_icmp_ne (tgt := 16) hC dX6_canLie_6 rfl (?_ : Sd X 16 [(0, 16), (1, 0)] [] _) (?_ : Sd X 9 [(0, 16), (1, 0)] [] _)
    · exact Sd.weak (by decide) (S_16)
    · refine sd_aload_n hC 16 dX6_canLie_9 rfl (by decide) (by decide) (?_ : Sd X 10 [(0, 16), (1, 0)] [16] _)
      refine sd_get hC (ci := 6) (j := 5) (C := RX6) (T := TX6) (N := 7) rfl rfl (by decide) in_X6 wl_1_57 dX6_canLie_10 (?_ : Sd X 13 [(0, 16), (1, 0)] [0] _)
      refine sd_if_ne (tgt := 28) hC dX6_canLie_13 rfl (?_ : Sd X 28 [(0, 16), (1, 0)] [] _) (?_ : Sd X 16 [(0, 16), (1, 0)] [] _)
      · exact Sd.weak (by decide) (S_28)
      · exact Sd.weak (by decide) (S_16)
theorem hd_X6_narrowest : yX6_narrowest.cls ≠ "java/lang/invoke/MethodHandle" ∧ yX6_narrowest.cls ≠ "java/lang/invoke/VarHandle" ∧ (parseMethodDescriptor yX6_narrowest.desc).map (fun d => d.parameters.length) = some 0 := by decide +kernel
set_option maxRecDepth 100000 in
set_option maxHeartbeats 4000000 in
theorem M_X6_narrowest (l : Launch) : Mt l yX6_narrowest (Cond.code yX6_narrowest cX6_narrowest 1 (some .int) :: WALL) { frames := 0, cells := 0, slots := 0, locals := 0 } [16] (some 0) T_X6_narrowest := by
  refine Mt.mk (B := E_X6_narrowest) (by decide +kernel) (by decide) (fun _ _ _ hh => hh) ?_
  intro X Q e1 e2 e3 hC hN hT
  subst e1
  have hC : CF X cX6_narrowest RX6 WALL := hC
  have S_37 : Sd X 37 [(0, 16)] [0] (B_X6_narrowest_37 Q) := by
    unfold B_X6_narrowest_37
    exact sd_ireturn hC hT dX6_narrowest_37
  have S_31 : Sd X 31 [(0, 16)] [] (B_X6_narrowest_31 Q) := by
    unfold B_X6_narrowest_31
    refine sd_aload_n hC 16 dX6_narrowest_31 rfl (by decide) (by decide) (?_ : Sd X 32 [(0, 16)] [16] _)
    refine sd_get hC (ci := 6) (j := 1) (C := RX6) (T := TX6) (N := 7) rfl rfl (by decide) in_X6 wl_1_48 dX6_narrowest_32 (?_ : Sd X 35 [(0, 16)] [100] _)
    refine sd_iconst hC dX6_narrowest_35 ⟨by decide, by decide⟩ (?_ : Sd X 36 [(0, 16)] [0, 100] _)
    refine sd_iaload hC dX6_narrowest_36 (?_ : Sd X 37 [(0, 16)] [0] _)
    exact Sd.weak (by decide) (S_37)
  refine (?_ : Sd X 0 [(0, 16)] [] (E_X6_narrowest Q))
  unfold E_X6_narrowest
  refine sd_aload_n hC 16 dX6_narrowest_0 rfl (by decide) (by decide) (?_ : Sd X 1 [(0, 16)] [16] _)
  refine sd_get hC (ci := 6) (j := 5) (C := RX6) (T := TX6) (N := 7) rfl rfl (by decide) in_X6 wl_1_57 dX6_narrowest_1 (?_ : Sd X 4 [(0, 16)] [0] _)
  refine sd_if_eq (tgt := 31) hC dX6_narrowest_4 rfl (?_ : Sd X 31 [(0, 16)] [] _) (?_ : Sd X 7 [(0, 16)] [] _)
  · exact Sd.weak (by decide) (S_31)
  · refine sd_aload_n hC 16 dX6_narrowest_7 rfl (by decide) (by decide) (?_ : Sd X 8 [(0, 16)] [16] _)
    refine sd_get hC (ci := 6) (j := 1) (C := RX6) (T := TX6) (N := 7) rfl rfl (by decide) in_X6 wl_1_48 dX6_narrowest_8 (?_ : Sd X 11 [(0, 16)] [100] _)
    refine sd_iconst hC dX6_narrowest_11 ⟨by decide, by decide⟩ (?_ : Sd X 12 [(0, 16)] [0, 100] _)
    refine sd_iaload hC dX6_narrowest_12 (?_ : Sd X 13 [(0, 16)] [0] _)
    refine sd_aload_n hC 16 dX6_narrowest_13 rfl (by decide) (by decide) (?_ : Sd X 14 [(0, 16)] [16, 0] _)
    refine sd_get hC (ci := 6) (j := 1) (C := RX6) (T := TX6) (N := 7) rfl rfl (by decide) in_X6 wl_1_48 dX6_narrowest_14 (?_ : Sd X 17 [(0, 16)] [100, 0] _)
    refine sd_iconst hC dX6_narrowest_17 ⟨by decide, by decide⟩ (?_ : Sd X 18 [(0, 16)] [0, 100, 0] _)
    refine sd_iaload hC dX6_narrowest_18 (?_ : Sd X 19 [(0, 16)] [0, 0] _)
    refine sd_icmp_ge (tgt := 31) hC dX6_narrowest_19 rfl (?_ : Sd X 31 [(0, 16)] [] _) (?_ : Sd X 22 [(0, 16)] [] _)
    · exact Sd.weak (by decide) (S_31)
    · refine sd_aload_n hC 16 dX6_narrowest_22 rfl (by decide) (by decide) (?_ : Sd X 23 [(0, 16)] [16] _)
      refine sd_get hC (ci := 6) (j := 1) (C := RX6) (T := TX6) (N := 7) rfl rfl (by decide) in_X6 wl_1_48 dX6_narrowest_23 (?_ : Sd X 26 [(0, 16)] [100] _)
      refine sd_iconst hC dX6_narrowest_26 ⟨by decide, by decide⟩ (?_ : Sd X 27 [(0, 16)] [0, 100] _)
      refine sd_iaload hC dX6_narrowest_27 (?_ : Sd X 28 [(0, 16)] [0] _)
      refine sd_goto (tgt := 37) hC dX6_narrowest_28 rfl (?_ : Sd X 37 [(0, 16)] [0] _)
      exact Sd.weak (by decide) (S_37)
theorem hd_X1_meets : yX1_meets.cls ≠ "java/lang/invoke/MethodHandle" ∧ yX1_meets.cls ≠ "java/lang/invoke/VarHandle" ∧ (parseMethodDescriptor yX1_meets.desc).map (fun d => d.parameters.length) = some 3 := by decide +kernel
set_option maxRecDepth 100000 in
set_option maxHeartbeats 4000000 in
theorem M_X1_meets (l : Launch) : Mt l yX1_meets (Cond.code yX1_meets cX1_meets 9 (some .int) :: WALL) { frames := 0, cells := 0, slots := 0, locals := 0 } [11, 16, 0, 0] (some 0) T_X1_meets := by
  refine Mt.mk (B := E_X1_meets) (by decide +kernel) (by decide) (fun _ _ _ hh => hh) ?_
  intro X Q e1 e2 e3 hC hN hT
  subst e1
  have hC : CF X cX1_meets RX1 WALL := hC
  have S_127 : Sd X 127 [(0, 11), (1, 16), (2, 0), (3, 0), (4, 100), (5, 0), (6, 0), (7, 0), (8, 0)] [0] (B_X1_meets_127 Q) := by
    unfold B_X1_meets_127
    exact sd_ireturn hC hT dX1_meets_127
  refine (?_ : Sd X 0 [(0, 11), (1, 16), (2, 0), (3, 0)] [] (E_X1_meets Q))
  unfold E_X1_meets
  refine sd_aload_n hC 11 dX1_meets_0 rfl (by decide) (by decide) (?_ : Sd X 1 [(0, 11), (1, 16), (2, 0), (3, 0)] [11] _)
  refine sd_get hC (ci := 1) (j := 6) (C := RX1) (T := TX1) (N := 12) rfl rfl (by decide) in_X1 wl_1_101 dX1_meets_1 (?_ : Sd X 4 [(0, 11), (1, 16), (2, 0), (3, 0)] [200] _)
  refine sd_iload_n hC dX1_meets_4 rfl (by decide) (?_ : Sd X 5 [(0, 11), (1, 16), (2, 0), (3, 0)] [0, 200] _)
  refine sd_aaload (e := 100) hC (List.mem_of_getElem? (i := 7) rfl) rfl rfl dX1_meets_5 (?_ : Sd X 6 [(0, 11), (1, 16), (2, 0), (3, 0)] [100] _)
  refine sd_astore (Γ' := [(0, 11), (1, 16), (2, 0), (3, 0), (4, 100)]) hC dX1_meets_6 (by decide) (by rw [e2]; decide) (by decide) (?_ : Sd X 8 [(0, 11), (1, 16), (2, 0), (3, 0), (4, 100)] [] _)
  refine sd_aload_n hC 11 dX1_meets_8 rfl (by decide) (by decide) (?_ : Sd X 9 [(0, 11), (1, 16), (2, 0), (3, 0), (4, 100)] [11] _)
  refine sd_get hC (ci := 1) (j := 5) (C := RX1) (T := TX1) (N := 12) rfl rfl (by decide) in_X1 wl_1_99 dX1_meets_9 (?_ : Sd X 12 [(0, 11), (1, 16), (2, 0), (3, 0), (4, 100)] [100] _)
  refine sd_aload hC 100 dX1_meets_12 (by decide) (by decide) (?_ : Sd X 14 [(0, 11), (1, 16), (2, 0), (3, 0), (4, 100)] [100, 100] _)
  refine sd_iconst hC dX1_meets_14 ⟨by decide, by decide⟩ (?_ : Sd X 15 [(0, 11), (1, 16), (2, 0), (3, 0), (4, 100)] [0, 100, 100] _)
  refine sd_iaload hC dX1_meets_15 (?_ : Sd X 16 [(0, 11), (1, 16), (2, 0), (3, 0), (4, 100)] [0, 100] _)
  refine sd_iaload hC dX1_meets_16 (?_ : Sd X 17 [(0, 11), (1, 16), (2, 0), (3, 0), (4, 100)] [0] _)
  refine sd_istore (Γ' := [(0, 11), (1, 16), (2, 0), (3, 0), (4, 100), (5, 0)]) hC dX1_meets_17 (by rw [e2]; decide) (by decide) (?_ : Sd X 19 [(0, 11), (1, 16), (2, 0), (3, 0), (4, 100), (5, 0)] [] _)
  refine sd_aload_n hC 11 dX1_meets_19 rfl (by decide) (by decide) (?_ : Sd X 20 [(0, 11), (1, 16), (2, 0), (3, 0), (4, 100), (5, 0)] [11] _)
  refine sd_get hC (ci := 1) (j := 5) (C := RX1) (T := TX1) (N := 12) rfl rfl (by decide) in_X1 wl_1_99 dX1_meets_20 (?_ : Sd X 23 [(0, 11), (1, 16), (2, 0), (3, 0), (4, 100), (5, 0)] [100] _)
  refine sd_aload hC 100 dX1_meets_23 (by decide) (by decide) (?_ : Sd X 25 [(0, 11), (1, 16), (2, 0), (3, 0), (4, 100), (5, 0)] [100, 100] _)
  refine sd_iconst hC dX1_meets_25 ⟨by decide, by decide⟩ (?_ : Sd X 26 [(0, 11), (1, 16), (2, 0), (3, 0), (4, 100), (5, 0)] [0, 100, 100] _)
  refine sd_iaload hC dX1_meets_26 (?_ : Sd X 27 [(0, 11), (1, 16), (2, 0), (3, 0), (4, 100), (5, 0)] [0, 100] _)
  refine sd_iconst hC dX1_meets_27 ⟨by decide, by decide⟩ (?_ : Sd X 28 [(0, 11), (1, 16), (2, 0), (3, 0), (4, 100), (5, 0)] [0, 0, 100] _)
  refine sd_iadd hC dX1_meets_28 (?_ : Sd X 29 [(0, 11), (1, 16), (2, 0), (3, 0), (4, 100), (5, 0)] [0, 100] _)
  refine sd_iaload hC dX1_meets_29 (?_ : Sd X 30 [(0, 11), (1, 16), (2, 0), (3, 0), (4, 100), (5, 0)] [0] _)
  refine sd_istore (Γ' := [(0, 11), (1, 16), (2, 0), (3, 0), (4, 100), (5, 0), (6, 0)]) hC dX1_meets_30 (by rw [e2]; decide) (by decide) (?_ : Sd X 32 [(0, 11), (1, 16), (2, 0), (3, 0), (4, 100), (5, 0), (6, 0)] [] _)
  refine sd_aload_n hC 16 dX1_meets_32 rfl (by decide) (by decide) (?_ : Sd X 33 [(0, 11), (1, 16), (2, 0), (3, 0), (4, 100), (5, 0), (6, 0)] [16] _)
  refine sd_get hC (ci := 6) (j := 1) (C := RX6) (T := TX6) (N := 7) rfl rfl (by decide) in_X6 wl_1_49 dX1_meets_33 (?_ : Sd X 36 [(0, 11), (1, 16), (2, 0), (3, 0), (4, 100), (5, 0), (6, 0)] [100] _)
  refine sd_iload_n hC dX1_meets_36 rfl (by decide) (?_ : Sd X 37 [(0, 11), (1, 16), (2, 0), (3, 0), (4, 100), (5, 0), (6, 0)] [0, 100] _)
  refine sd_iaload hC dX1_meets_37 (?_ : Sd X 38 [(0, 11), (1, 16), (2, 0), (3, 0), (4, 100), (5, 0), (6, 0)] [0] _)
  refine sd_istore (Γ' := [(0, 11), (1, 16), (2, 0), (3, 0), (4, 100), (5, 0), (6, 0), (7, 0)]) hC dX1_meets_38 (by rw [e2]; decide) (by decide) (?_ : Sd X 40 [(0, 11), (1, 16), (2, 0), (3, 0), (4, 100), (5, 0), (6, 0), (7, 0)] [] _)
  refine sd_aload_n hC 16 dX1_meets_40 rfl (by decide) (by decide) (?_ : Sd X 41 [(0, 11), (1, 16), (2, 0), (3, 0), (4, 100), (5, 0), (6, 0), (7, 0)] [16] _)
  refine sd_get hC (ci := 6) (j := 0) (C := RX6) (T := TX6) (N := 7) rfl rfl (by decide) in_X6 wl_1_47 dX1_meets_41 (?_ : Sd X 44 [(0, 11), (1, 16), (2, 0), (3, 0), (4, 100), (5, 0), (6, 0), (7, 0)] [100] _)
  refine sd_iload_n hC dX1_meets_44 rfl (by decide) (?_ : Sd X 45 [(0, 11), (1, 16), (2, 0), (3, 0), (4, 100), (5, 0), (6, 0), (7, 0)] [0, 100] _)
  refine sd_iaload hC dX1_meets_45 (?_ : Sd X 46 [(0, 11), (1, 16), (2, 0), (3, 0), (4, 100), (5, 0), (6, 0), (7, 0)] [0] _)
  refine sd_iload hC dX1_meets_46 (by decide) (?_ : Sd X 48 [(0, 11), (1, 16), (2, 0), (3, 0), (4, 100), (5, 0), (6, 0), (7, 0)] [0, 0] _)
  refine sd_iadd hC dX1_meets_48 (?_ : Sd X 49 [(0, 11), (1, 16), (2, 0), (3, 0), (4, 100), (5, 0), (6, 0), (7, 0)] [0] _)
  refine sd_istore (Γ' := [(0, 11), (1, 16), (2, 0), (3, 0), (4, 100), (5, 0), (6, 0), (7, 0), (8, 0)]) hC dX1_meets_49 (by rw [e2]; decide) (by decide) (?_ : Sd X 51 [(0, 11), (1, 16), (2, 0), (3, 0), (4, 100), (5, 0), (6, 0), (7, 0), (8, 0)] [] _)
  refine sd_iload hC dX1_meets_51 (by decide) (?_ : Sd X 53 [(0, 11), (1, 16), (2, 0), (3, 0), (4, 100), (5, 0), (6, 0), (7, 0), (8, 0)] [0] _)
  refine sd_iload hC dX1_meets_53 (by decide) (?_ : Sd X 55 [(0, 11), (1, 16), (2, 0), (3, 0), (4, 100), (5, 0), (6, 0), (7, 0), (8, 0)] [0, 0] _)
  refine sd_icmp_le (tgt := 60) hC dX1_meets_55 rfl (?_ : Sd X 60 [(0, 11), (1, 16), (2, 0), (3, 0), (4, 100), (5, 0), (6, 0), (7, 0), (8, 0)] [] _) (?_ : Sd X 58 [(0, 11), (1, 16), (2, 0), (3, 0), (4, 100), (5, 0), (6, 0), (7, 0), (8, 0)] [] _)
  · refine sd_iload hC dX1_meets_60 (by decide) (?_ : Sd X 62 [(0, 11), (1, 16), (2, 0), (3, 0), (4, 100), (5, 0), (6, 0), (7, 0), (8, 0)] [0] _)
    refine sd_aload hC 100 dX1_meets_62 (by decide) (by decide) (?_ : Sd X 64 [(0, 11), (1, 16), (2, 0), (3, 0), (4, 100), (5, 0), (6, 0), (7, 0), (8, 0)] [100, 0] _)
    refine sd_iconst hC dX1_meets_64 ⟨by decide, by decide⟩ (?_ : Sd X 65 [(0, 11), (1, 16), (2, 0), (3, 0), (4, 100), (5, 0), (6, 0), (7, 0), (8, 0)] [0, 100, 0] _)
    refine sd_iaload hC dX1_meets_65 (?_ : Sd X 66 [(0, 11), (1, 16), (2, 0), (3, 0), (4, 100), (5, 0), (6, 0), (7, 0), (8, 0)] [0, 0] _)
    refine sd_icmp_le (tgt := 71) hC dX1_meets_66 rfl (?_ : Sd X 71 [(0, 11), (1, 16), (2, 0), (3, 0), (4, 100), (5, 0), (6, 0), (7, 0), (8, 0)] [] _) (?_ : Sd X 69 [(0, 11), (1, 16), (2, 0), (3, 0), (4, 100), (5, 0), (6, 0), (7, 0), (8, 0)] [] _)
    · refine sd_aload_n hC 16 dX1_meets_71 rfl (by decide) (by decide) (?_ : Sd X 72 [(0, 11), (1, 16), (2, 0), (3, 0), (4, 100), (5, 0), (6, 0), (7, 0), (8, 0)] [16] _)
      refine sd_get hC (ci := 6) (j := 2) (C := RX6) (T := TX6) (N := 7) rfl rfl (by decide) in_X6 wl_1_51 dX1_meets_72 (?_ : Sd X 75 [(0, 11), (1, 16), (2, 0), (3, 0), (4, 100), (5, 0), (6, 0), (7, 0), (8, 0)] [100] _)
      refine sd_iload_n hC dX1_meets_75 rfl (by decide) (?_ : Sd X 76 [(0, 11), (1, 16), (2, 0), (3, 0), (4, 100), (5, 0), (6, 0), (7, 0), (8, 0)] [0, 100] _)
      refine sd_iaload hC dX1_meets_76 (?_ : Sd X 77 [(0, 11), (1, 16), (2, 0), (3, 0), (4, 100), (5, 0), (6, 0), (7, 0), (8, 0)] [0] _)
      refine sd_aload hC 100 dX1_meets_77 (by decide) (by decide) (?_ : Sd X 79 [(0, 11), (1, 16), (2, 0), (3, 0), (4, 100), (5, 0), (6, 0), (7, 0), (8, 0)] [100, 0] _)
      refine sd_iconst hC dX1_meets_79 ⟨by decide, by decide⟩ (?_ : Sd X 80 [(0, 11), (1, 16), (2, 0), (3, 0), (4, 100), (5, 0), (6, 0), (7, 0), (8, 0)] [0, 100, 0] _)
      refine sd_iaload hC dX1_meets_80 (?_ : Sd X 81 [(0, 11), (1, 16), (2, 0), (3, 0), (4, 100), (5, 0), (6, 0), (7, 0), (8, 0)] [0, 0] _)
      refine sd_icmp_le (tgt := 86) hC dX1_meets_81 rfl (?_ : Sd X 86 [(0, 11), (1, 16), (2, 0), (3, 0), (4, 100), (5, 0), (6, 0), (7, 0), (8, 0)] [] _) (?_ : Sd X 84 [(0, 11), (1, 16), (2, 0), (3, 0), (4, 100), (5, 0), (6, 0), (7, 0), (8, 0)] [] _)
      · refine sd_iload hC dX1_meets_86 (by decide) (?_ : Sd X 88 [(0, 11), (1, 16), (2, 0), (3, 0), (4, 100), (5, 0), (6, 0), (7, 0), (8, 0)] [0] _)
        refine sd_iload hC dX1_meets_88 (by decide) (?_ : Sd X 90 [(0, 11), (1, 16), (2, 0), (3, 0), (4, 100), (5, 0), (6, 0), (7, 0), (8, 0)] [0, 0] _)
        refine sd_icmp_le (tgt := 95) hC dX1_meets_90 rfl (?_ : Sd X 95 [(0, 11), (1, 16), (2, 0), (3, 0), (4, 100), (5, 0), (6, 0), (7, 0), (8, 0)] [] _) (?_ : Sd X 93 [(0, 11), (1, 16), (2, 0), (3, 0), (4, 100), (5, 0), (6, 0), (7, 0), (8, 0)] [] _)
        · refine sd_iload hC dX1_meets_95 (by decide) (?_ : Sd X 97 [(0, 11), (1, 16), (2, 0), (3, 0), (4, 100), (5, 0), (6, 0), (7, 0), (8, 0)] [0] _)
          refine sd_iload hC dX1_meets_97 (by decide) (?_ : Sd X 99 [(0, 11), (1, 16), (2, 0), (3, 0), (4, 100), (5, 0), (6, 0), (7, 0), (8, 0)] [0, 0] _)
          refine sd_aload hC 100 dX1_meets_99 (by decide) (by decide) (?_ : Sd X 101 [(0, 11), (1, 16), (2, 0), (3, 0), (4, 100), (5, 0), (6, 0), (7, 0), (8, 0)] [100, 0, 0] _)
          refine sd_iconst hC dX1_meets_101 ⟨by decide, by decide⟩ (?_ : Sd X 102 [(0, 11), (1, 16), (2, 0), (3, 0), (4, 100), (5, 0), (6, 0), (7, 0), (8, 0)] [0, 100, 0, 0] _)
          refine sd_iaload hC dX1_meets_102 (?_ : Sd X 103 [(0, 11), (1, 16), (2, 0), (3, 0), (4, 100), (5, 0), (6, 0), (7, 0), (8, 0)] [0, 0, 0] _)
          refine sd_iadd hC dX1_meets_103 (?_ : Sd X 104 [(0, 11), (1, 16), (2, 0), (3, 0), (4, 100), (5, 0), (6, 0), (7, 0), (8, 0)] [0, 0] _)
          refine sd_icmp_le (tgt := 109) hC dX1_meets_104 rfl (?_ : Sd X 109 [(0, 11), (1, 16), (2, 0), (3, 0), (4, 100), (5, 0), (6, 0), (7, 0), (8, 0)] [] _) (?_ : Sd X 107 [(0, 11), (1, 16), (2, 0), (3, 0), (4, 100), (5, 0), (6, 0), (7, 0), (8, 0)] [] _)
          · refine sd_iload hC dX1_meets_109 (by decide) (?_ : Sd X 111 [(0, 11), (1, 16), (2, 0), (3, 0), (4, 100), (5, 0), (6, 0), (7, 0), (8, 0)] [0] _)
            refine sd_iload hC dX1_meets_111 (by decide) (?_ : Sd X 113 [(0, 11), (1, 16), (2, 0), (3, 0), (4, 100), (5, 0), (6, 0), (7, 0), (8, 0)] [0, 0] _)
            refine sd_aload hC 100 dX1_meets_113 (by decide) (by decide) (?_ : Sd X 115 [(0, 11), (1, 16), (2, 0), (3, 0), (4, 100), (5, 0), (6, 0), (7, 0), (8, 0)] [100, 0, 0] _)
            refine sd_iconst hC dX1_meets_115 ⟨by decide, by decide⟩ (?_ : Sd X 116 [(0, 11), (1, 16), (2, 0), (3, 0), (4, 100), (5, 0), (6, 0), (7, 0), (8, 0)] [0, 100, 0, 0] _)
            refine sd_iaload hC dX1_meets_116 (?_ : Sd X 117 [(0, 11), (1, 16), (2, 0), (3, 0), (4, 100), (5, 0), (6, 0), (7, 0), (8, 0)] [0, 0, 0] _)
            refine sd_iadd hC dX1_meets_117 (?_ : Sd X 118 [(0, 11), (1, 16), (2, 0), (3, 0), (4, 100), (5, 0), (6, 0), (7, 0), (8, 0)] [0, 0] _)
            refine sd_icmp_le (tgt := 126) hC dX1_meets_118 rfl (?_ : Sd X 126 [(0, 11), (1, 16), (2, 0), (3, 0), (4, 100), (5, 0), (6, 0), (7, 0), (8, 0)] [] _) (?_ : Sd X 121 [(0, 11), (1, 16), (2, 0), (3, 0), (4, 100), (5, 0), (6, 0), (7, 0), (8, 0)] [] _)
            · refine sd_iconst hC dX1_meets_126 ⟨by decide, by decide⟩ (?_ : Sd X 127 [(0, 11), (1, 16), (2, 0), (3, 0), (4, 100), (5, 0), (6, 0), (7, 0), (8, 0)] [0] _)
              exact Sd.weak (by decide) (S_127)
            · refine sd_bipush hC dX1_meets_121 (by decide) (?_ : Sd X 123 [(0, 11), (1, 16), (2, 0), (3, 0), (4, 100), (5, 0), (6, 0), (7, 0), (8, 0)] [0] _)
              refine sd_goto (tgt := 127) hC dX1_meets_123 rfl (?_ : Sd X 127 [(0, 11), (1, 16), (2, 0), (3, 0), (4, 100), (5, 0), (6, 0), (7, 0), (8, 0)] [0] _)
              exact Sd.weak (by decide) (S_127)
          · refine sd_iconst hC dX1_meets_107 ⟨by decide, by decide⟩ (?_ : Sd X 108 [(0, 11), (1, 16), (2, 0), (3, 0), (4, 100), (5, 0), (6, 0), (7, 0), (8, 0)] [0] _)
            exact sd_ireturn hC hT dX1_meets_108
        · refine sd_iconst hC dX1_meets_93 ⟨by decide, by decide⟩ (?_ : Sd X 94 [(0, 11), (1, 16), (2, 0), (3, 0), (4, 100), (5, 0), (6, 0), (7, 0), (8, 0)] [0] _)
          exact sd_ireturn hC hT dX1_meets_94
      · refine sd_iconst hC dX1_meets_84 ⟨by decide, by decide⟩ (?_ : Sd X 85 [(0, 11), (1, 16), (2, 0), (3, 0), (4, 100), (5, 0), (6, 0), (7, 0), (8, 0)] [0] _)
        exact sd_ireturn hC hT dX1_meets_85
    · refine sd_iconst hC dX1_meets_69 ⟨by decide, by decide⟩ (?_ : Sd X 70 [(0, 11), (1, 16), (2, 0), (3, 0), (4, 100), (5, 0), (6, 0), (7, 0), (8, 0)] [0] _)
      exact sd_ireturn hC hT dX1_meets_70
  · refine sd_iconst hC dX1_meets_58 ⟨by decide, by decide⟩ (?_ : Sd X 59 [(0, 11), (1, 16), (2, 0), (3, 0), (4, 100), (5, 0), (6, 0), (7, 0), (8, 0)] [0] _)
    exact sd_ireturn hC hT dX1_meets_59
theorem hd_J9_min_7cf53 : yJ9_min_7cf53.cls ≠ "java/lang/invoke/MethodHandle" ∧ yJ9_min_7cf53.cls ≠ "java/lang/invoke/VarHandle" ∧ (parseMethodDescriptor yJ9_min_7cf53.desc).map (fun d => d.parameters.length) = some 2 := by decide +kernel
set_option maxRecDepth 100000 in
set_option maxHeartbeats 4000000 in
theorem M_J9_min_7cf53 (l : Launch) : Mt l yJ9_min_7cf53 (Cond.code yJ9_min_7cf53 cJ9_min_7cf53 2 (some .int) :: WALL) { frames := 0, cells := 0, slots := 0, locals := 0 } [0, 0] (some 0) T_J9_min_7cf53 := by
  refine Mt.mk (B := E_J9_min_7cf53) (by decide +kernel) (by decide) (fun _ _ _ hh => hh) ?_
  intro X Q e1 e2 e3 hC hN hT
  subst e1
  have hC : CF X cJ9_min_7cf53 RJ9 WALL := hC
  have S_10 : Sd X 10 [(0, 0), (1, 0)] [0] (B_J9_min_7cf53_10 Q) := by
    unfold B_J9_min_7cf53_10
    exact sd_ireturn hC hT dJ9_min_7cf53_10
  refine (?_ : Sd X 0 [(0, 0), (1, 0)] [] (E_J9_min_7cf53 Q))
  unfold E_J9_min_7cf53
  refine sd_iload_n hC dJ9_min_7cf53_0 rfl (by decide) (?_ : Sd X 1 [(0, 0), (1, 0)] [0] _)
  refine sd_iload_n hC dJ9_min_7cf53_1 rfl (by decide) (?_ : Sd X 2 [(0, 0), (1, 0)] [0, 0] _)
  refine sd_icmp_gt (tgt := 9) hC dJ9_min_7cf53_2 rfl (?_ : Sd X 9 [(0, 0), (1, 0)] [] _) (?_ : Sd X 5 [(0, 0), (1, 0)] [] _)
  · refine sd_iload_n hC dJ9_min_7cf53_9 rfl (by decide) (?_ : Sd X 10 [(0, 0), (1, 0)] [0] _)
    exact Sd.weak (by decide) (S_10)
  · refine sd_iload_n hC dJ9_min_7cf53_5 rfl (by decide) (?_ : Sd X 6 [(0, 0), (1, 0)] [0] _)
    refine sd_goto (tgt := 10) hC dJ9_min_7cf53_6 rfl (?_ : Sd X 10 [(0, 0), (1, 0)] [0] _)
    exact Sd.weak (by decide) (S_10)
theorem hd_X1_barOf : yX1_barOf.cls ≠ "java/lang/invoke/MethodHandle" ∧ yX1_barOf.cls ≠ "java/lang/invoke/VarHandle" ∧ (parseMethodDescriptor yX1_barOf.desc).map (fun d => d.parameters.length) = some 2 := by decide +kernel
set_option maxRecDepth 100000 in
set_option maxHeartbeats 4000000 in
theorem M_X1_barOf (l : Launch) : Mt l yX1_barOf (Cond.code yX1_barOf cX1_barOf 5 (some .int) :: WALL) { frames := 1, cells := 0, slots := 0, locals := 28 } [11, 16, 0] (some 0) T_X1_barOf := by
  refine Mt.mk (B := E_X1_barOf) (by decide +kernel) (by decide) (fun _ _ _ hh => hh) ?_
  intro X Q e1 e2 e3 hC hN hT
  subst e1
  have hC : CF X cX1_barOf RX1 WALL := hC
  have S_39 : ∀ (k11 : tK), Sd X 11 [(0, 11), (1, 16), (2, 0), (3, 0), (4, 0)] [] k11 → Sd X 39 [(0, 11), (1, 16), (2, 0), (3, 0), (4, 0)] [] (B_X1_barOf_39 Q k11) := by
    intro k11 h11
    unfold B_X1_barOf_39
    refine sd_iinc (Γ' := [(0, 11), (1, 16), (2, 0), (3, 0), (4, 0)]) hC dX1_barOf_39 (by decide) (by rw [e2]; decide) (by decide) (?_ : Sd X 42 [(0, 11), (1, 16), (2, 0), (3, 0), (4, 0)] [] _)
    refine sd_goto (tgt := 11) hC dX1_barOf_42 rfl (?_ : Sd X 11 [(0, 11), (1, 16), (2, 0), (3, 0), (4, 0)] [] _)
    exact Sd.weak (by decide) h11
  have S_11 : Sd X 11 [(0, 11), (1, 16), (2, 0), (3, 0), (4, 0)] [] (L_X1_barOf_11 Q) := by
    unfold L_X1_barOf_11
    refine Sd.loop (fun k11 h11 => ?_)
    refine sd_iload hC dX1_barOf_11 (by decide) (?_ : Sd X 13 [(0, 11), (1, 16), (2, 0), (3, 0), (4, 0)] [0] _)
    refine sd_iconst hC dX1_barOf_13 ⟨by decide, by decide⟩ (?_ : Sd X 14 [(0, 11), (1, 16), (2, 0), (3, 0), (4, 0)] [0, 0] _)
    refine sd_icmp_ge (tgt := 45) hC dX1_barOf_14 rfl (?_ : Sd X 45 [(0, 11), (1, 16), (2, 0), (3, 0), (4, 0)] [] _) (?_ : Sd X 17 [(0, 11), (1, 16), (2, 0), (3, 0), (4, 0)] [] _)
    · refine sd_iload_n hC dX1_barOf_45 rfl (by decide) (?_ : Sd X 46 [(0, 11), (1, 16), (2, 0), (3, 0), (4, 0)] [0] _)
      exact sd_ireturn hC hT dX1_barOf_46
    · refine sd_aload_n hC 16 dX1_barOf_17 rfl (by decide) (by decide) (?_ : Sd X 18 [(0, 11), (1, 16), (2, 0), (3, 0), (4, 0)] [16] _)
      refine sd_iload hC dX1_barOf_18 (by decide) (?_ : Sd X 20 [(0, 11), (1, 16), (2, 0), (3, 0), (4, 0)] [0, 16] _)
      refine sd_inv0 (τ := []) (τr := [0]) (ci := 6) (q := (RX6, TX6, 7)) hC WG (M_X6_canLie _) rfl rfl rfl rfl  rfl rfl wl_3_173 wl_3_174 wl_3_175 wl_1_3 wl_3_176 hd_X6_canLie (by rw [e3]; decide) (by decide) dX1_barOf_20 (?_ : Sd X 23 [(0, 11), (1, 16), (2, 0), (3, 0), (4, 0)] [0] _)
      refine sd_if_eq (tgt := 39) hC dX1_barOf_23 rfl (?_ : Sd X 39 [(0, 11), (1, 16), (2, 0), (3, 0), (4, 0)] [] _) (?_ : Sd X 26 [(0, 11), (1, 16), (2, 0), (3, 0), (4, 0)] [] _)
      · exact Sd.weak (by decide) (S_39 k11 h11)
      · refine sd_iload_n hC dX1_barOf_26 rfl (by decide) (?_ : Sd X 27 [(0, 11), (1, 16), (2, 0), (3, 0), (4, 0)] [0] _)
        refine sd_aload_n hC 11 dX1_barOf_27 rfl (by decide) (by decide) (?_ : Sd X 28 [(0, 11), (1, 16), (2, 0), (3, 0), (4, 0)] [11, 0] _)
        refine sd_aload_n hC 16 dX1_barOf_28 rfl (by decide) (by decide) (?_ : Sd X 29 [(0, 11), (1, 16), (2, 0), (3, 0), (4, 0)] [16, 11, 0] _)
        refine sd_iload hC dX1_barOf_29 (by decide) (?_ : Sd X 31 [(0, 11), (1, 16), (2, 0), (3, 0), (4, 0)] [0, 16, 11, 0] _)
        refine sd_iload_n hC dX1_barOf_31 rfl (by decide) (?_ : Sd X 32 [(0, 11), (1, 16), (2, 0), (3, 0), (4, 0)] [0, 0, 16, 11, 0] _)
        refine sd_inv0 (τ := [0]) (τr := [16, 0, 0]) (ci := 1) (q := (RX1, TX1, 12)) hC WG (M_X1_meets _) rfl rfl rfl rfl  rfl rfl wl_3_169 wl_3_170 wl_3_171 wl_1_2 wl_3_172 hd_X1_meets (by rw [e3]; decide) (by decide) dX1_barOf_32 (?_ : Sd X 35 [(0, 11), (1, 16), (2, 0), (3, 0), (4, 0)] [0, 0] _)
        refine sd_imin hC wl_3_177 wl_3_140 wl_1_16 wl_3_141 (by rw [e3]; decide) (by decide) dX1_barOf_35 (?_ : Sd X 38 [(0, 11), (1, 16), (2, 0), (3, 0), (4, 0)] [0] _)
        refine sd_istore_n (Γ' := [(0, 11), (1, 16), (2, 0), (3, 0), (4, 0)]) hC dX1_barOf_38 rfl (by rw [e2]; decide) (by decide) (?_ : Sd X 39 [(0, 11), (1, 16), (2, 0), (3, 0), (4, 0)] [] _)
        exact Sd.weak (by decide) (S_39 k11 h11)
  refine (?_ : Sd X 0 [(0, 11), (1, 16), (2, 0)] [] (E_X1_barOf Q))
  unfold E_X1_barOf
  refine sd_aload_n hC 11 dX1_barOf_0 rfl (by decide) (by decide) (?_ : Sd X 1 [(0, 11), (1, 16), (2, 0)] [11] _)
  refine sd_aload_n hC 16 dX1_barOf_1 rfl (by decide) (by decide) (?_ : Sd X 2 [(0, 11), (1, 16), (2, 0)] [16, 11] _)
  refine sd_iconst hC dX1_barOf_2 ⟨by decide, by decide⟩ (?_ : Sd X 3 [(0, 11), (1, 16), (2, 0)] [0, 16, 11] _)
  refine sd_iload_n hC dX1_barOf_3 rfl (by decide) (?_ : Sd X 4 [(0, 11), (1, 16), (2, 0)] [0, 0, 16, 11] _)
  refine sd_inv0 (τ := []) (τr := [16, 0, 0]) (ci := 1) (q := (RX1, TX1, 12)) hC WG (M_X1_meets _) rfl rfl rfl rfl  rfl rfl wl_3_169 wl_3_170 wl_3_171 wl_1_2 wl_3_172 hd_X1_meets (by rw [e3]; decide) (by decide) dX1_barOf_4 (?_ : Sd X 7 [(0, 11), (1, 16), (2, 0)] [0] _)
  refine sd_istore_n (Γ' := [(0, 11), (1, 16), (2, 0), (3, 0)]) hC dX1_barOf_7 rfl (by rw [e2]; decide) (by decide) (?_ : Sd X 8 [(0, 11), (1, 16), (2, 0), (3, 0)] [] _)
  refine sd_iconst hC dX1_barOf_8 ⟨by decide, by decide⟩ (?_ : Sd X 9 [(0, 11), (1, 16), (2, 0), (3, 0)] [0] _)
  refine sd_istore (Γ' := [(0, 11), (1, 16), (2, 0), (3, 0), (4, 0)]) hC dX1_barOf_9 (by rw [e2]; decide) (by decide) (?_ : Sd X 11 [(0, 11), (1, 16), (2, 0), (3, 0), (4, 0)] [] _)
  exact Sd.weak (by decide) (S_11)
theorem hd_X1_letsThrough : yX1_letsThrough.cls ≠ "java/lang/invoke/MethodHandle" ∧ yX1_letsThrough.cls ≠ "java/lang/invoke/VarHandle" ∧ (parseMethodDescriptor yX1_letsThrough.desc).map (fun d => d.parameters.length) = some 2 := by decide +kernel
set_option maxRecDepth 100000 in
set_option maxHeartbeats 4000000 in
theorem M_X1_letsThrough (l : Launch) : Mt l yX1_letsThrough (Cond.code yX1_letsThrough cX1_letsThrough 3 (some .boolean) :: WALL) { frames := 2, cells := 0, slots := 0, locals := 52 } [11, 16, 0] (some 0) T_X1_letsThrough := by
  refine Mt.mk (B := E_X1_letsThrough) (by decide +kernel) (by decide) (fun _ _ _ hh => hh) ?_
  intro X Q e1 e2 e3 hC hN hT
  subst e1
  have hC : CF X cX1_letsThrough RX1 WALL := hC
  have S_26 : Sd X 26 [(0, 11), (1, 16), (2, 0)] [0] (B_X1_letsThrough_26 Q) := by
    unfold B_X1_letsThrough_26
    exact sd_zreturn hC hT dX1_letsThrough_26
  have S_25 : Sd X 25 [(0, 11), (1, 16), (2, 0)] [] (B_X1_letsThrough_25 Q) := by
    unfold B_X1_letsThrough_25
    refine sd_iconst hC dX1_letsThrough_25 ⟨by decide, by decide⟩ (?_ : Sd X 26 [(0, 11), (1, 16), (2, 0)] [0] _)
    exact Sd.weak (by decide) (S_26)
  refine (?_ : Sd X 0 [(0, 11), (1, 16), (2, 0)] [] (E_X1_letsThrough Q))
  unfold E_X1_letsThrough
  refine sd_aload_n hC 11 dX1_letsThrough_0 rfl (by decide) (by decide) (?_ : Sd X 1 [(0, 11), (1, 16), (2, 0)] [11] _)
  refine sd_get hC (ci := 1) (j := 6) (C := RX1) (T := TX1) (N := 12) rfl rfl (by decide) in_X1 wl_1_101 dX1_letsThrough_1 (?_ : Sd X 4 [(0, 11), (1, 16), (2, 0)] [200] _)
  refine sd_iload_n hC dX1_letsThrough_4 rfl (by decide) (?_ : Sd X 5 [(0, 11), (1, 16), (2, 0)] [0, 200] _)
  refine sd_aaload (e := 100) hC (List.mem_of_getElem? (i := 7) rfl) rfl rfl dX1_letsThrough_5 (?_ : Sd X 6 [(0, 11), (1, 16), (2, 0)] [100] _)
  refine sd_bipush hC dX1_letsThrough_6 (by decide) (?_ : Sd X 8 [(0, 11), (1, 16), (2, 0)] [0, 100] _)
  refine sd_iaload hC dX1_letsThrough_8 (?_ : Sd X 9 [(0, 11), (1, 16), (2, 0)] [0] _)
  refine sd_if_ne (tgt := 25) hC dX1_letsThrough_9 rfl (?_ : Sd X 25 [(0, 11), (1, 16), (2, 0)] [] _) (?_ : Sd X 12 [(0, 11), (1, 16), (2, 0)] [] _)
  · exact Sd.weak (by decide) (S_25)
  · refine sd_aload_n hC 11 dX1_letsThrough_12 rfl (by decide) (by decide) (?_ : Sd X 13 [(0, 11), (1, 16), (2, 0)] [11] _)
    refine sd_aload_n hC 16 dX1_letsThrough_13 rfl (by decide) (by decide) (?_ : Sd X 14 [(0, 11), (1, 16), (2, 0)] [16, 11] _)
    refine sd_iload_n hC dX1_letsThrough_14 rfl (by decide) (?_ : Sd X 15 [(0, 11), (1, 16), (2, 0)] [0, 16, 11] _)
    refine sd_inv0 (τ := []) (τr := [16, 0]) (ci := 1) (q := (RX1, TX1, 12)) hC WG (M_X1_barOf _) rfl rfl rfl rfl  rfl rfl wl_3_165 wl_3_166 wl_3_167 wl_1_2 wl_3_168 hd_X1_barOf (by rw [e3]; decide) (by decide) dX1_letsThrough_15 (?_ : Sd X 18 [(0, 11), (1, 16), (2, 0)] [0] _)
    refine sd_if_ne (tgt := 25) hC dX1_letsThrough_18 rfl (?_ : Sd X 25 [(0, 11), (1, 16), (2, 0)] [] _) (?_ : Sd X 21 [(0, 11), (1, 16), (2, 0)] [] _)
    · exact Sd.weak (by decide) (S_25)
    · refine sd_iconst hC dX1_letsThrough_21 ⟨by decide, by decide⟩ (?_ : Sd X 22 [(0, 11), (1, 16), (2, 0)] [0] _)
      refine sd_goto (tgt := 26) hC dX1_letsThrough_22 rfl (?_ : Sd X 26 [(0, 11), (1, 16), (2, 0)] [0] _)
      exact Sd.weak (by decide) (S_26)
theorem hd_X1_someGateLets : yX1_someGateLets.cls ≠ "java/lang/invoke/MethodHandle" ∧ yX1_someGateLets.cls ≠ "java/lang/invoke/VarHandle" ∧ (parseMethodDescriptor yX1_someGateLets.desc).map (fun d => d.parameters.length) = some 2 := by decide +kernel
set_option maxRecDepth 100000 in
set_option maxHeartbeats 4000000 in
theorem M_X1_someGateLets (l : Launch) : Mt l yX1_someGateLets (Cond.code yX1_someGateLets cX1_someGateLets 4 (some .boolean) :: WALL) { frames := 3, cells := 0, slots := 0, locals := 74 } [11, 16, 0] (some 0) T_X1_someGateLets := by
  refine Mt.mk (B := E_X1_someGateLets) (by decide +kernel) (by decide) (fun _ _ _ hh => hh) ?_
  intro X Q e1 e2 e3 hC hN hT
  subst e1
  have hC : CF X cX1_someGateLets RX1 WALL := hC
  have S_33 : ∀ (k2 : tK), Sd X 2 [(0, 11), (1, 16), (2, 0), (3, 0)] [] k2 → Sd X 33 [(0, 11), (1, 16), (2, 0), (3, 0)] [] (B_X1_someGateLets_33 Q k2) := by
    intro k2 h2
    unfold B_X1_someGateLets_33
    refine sd_iinc (Γ' := [(0, 11), (1, 16), (2, 0), (3, 0)]) hC dX1_someGateLets_33 (by decide) (by rw [e2]; decide) (by decide) (?_ : Sd X 36 [(0, 11), (1, 16), (2, 0), (3, 0)] [] _)
    refine sd_goto (tgt := 2) hC dX1_someGateLets_36 rfl (?_ : Sd X 2 [(0, 11), (1, 16), (2, 0), (3, 0)] [] _)
    exact Sd.weak (by decide) h2
  have S_2 : Sd X 2 [(0, 11), (1, 16), (2, 0), (3, 0)] [] (L_X1_someGateLets_2 Q) := by
    unfold L_X1_someGateLets_2
    refine Sd.loop (fun k2 h2 => ?_)
    refine sd_iload_n hC dX1_someGateLets_2 rfl (by decide) (?_ : Sd X 3 [(0, 11), (1, 16), (2, 0), (3, 0)] [0] _)
    refine sd_aload_n hC 11 dX1_someGateLets_3 rfl (by decide) (by decide) (?_ : Sd X 4 [(0, 11), (1, 16), (2, 0), (3, 0)] [11, 0] _)
    refine sd_get hC (ci := 1) (j := 1) (C := RX1) (T := TX1) (N := 12) rfl rfl (by decide) in_X1 wl_1_82 dX1_someGateLets_4 (?_ : Sd X 7 [(0, 11), (1, 16), (2, 0), (3, 0)] [0, 0] _)
    refine sd_icmp_ge (tgt := 39) hC dX1_someGateLets_7 rfl (?_ : Sd X 39 [(0, 11), (1, 16), (2, 0), (3, 0)] [] _) (?_ : Sd X 10 [(0, 11), (1, 16), (2, 0), (3, 0)] [] _)
    · refine sd_iconst hC dX1_someGateLets_39 ⟨by decide, by decide⟩ (?_ : Sd X 40 [(0, 11), (1, 16), (2, 0), (3, 0)] [0] _)
      exact sd_zreturn hC hT dX1_someGateLets_40
    · refine sd_aload_n hC 11 dX1_someGateLets_10 rfl (by decide) (by decide) (?_ : Sd X 11 [(0, 11), (1, 16), (2, 0), (3, 0)] [11] _)
      refine sd_get hC (ci := 1) (j := 6) (C := RX1) (T := TX1) (N := 12) rfl rfl (by decide) in_X1 wl_1_101 dX1_someGateLets_11 (?_ : Sd X 14 [(0, 11), (1, 16), (2, 0), (3, 0)] [200] _)
      refine sd_iload_n hC dX1_someGateLets_14 rfl (by decide) (?_ : Sd X 15 [(0, 11), (1, 16), (2, 0), (3, 0)] [0, 200] _)
      refine sd_aaload (e := 100) hC (List.mem_of_getElem? (i := 7) rfl) rfl rfl dX1_someGateLets_15 (?_ : Sd X 16 [(0, 11), (1, 16), (2, 0), (3, 0)] [100] _)
      refine sd_iconst hC dX1_someGateLets_16 ⟨by decide, by decide⟩ (?_ : Sd X 17 [(0, 11), (1, 16), (2, 0), (3, 0)] [0, 100] _)
      refine sd_iaload hC dX1_someGateLets_17 (?_ : Sd X 18 [(0, 11), (1, 16), (2, 0), (3, 0)] [0] _)
      refine sd_iload_n hC dX1_someGateLets_18 rfl (by decide) (?_ : Sd X 19 [(0, 11), (1, 16), (2, 0), (3, 0)] [0, 0] _)
      refine sd_icmp_ne (tgt := 33) hC dX1_someGateLets_19 rfl (?_ : Sd X 33 [(0, 11), (1, 16), (2, 0), (3, 0)] [] _) (?_ : Sd X 22 [(0, 11), (1, 16), (2, 0), (3, 0)] [] _)
      · exact Sd.weak (by decide) (S_33 k2 h2)
      · refine sd_aload_n hC 11 dX1_someGateLets_22 rfl (by decide) (by decide) (?_ : Sd X 23 [(0, 11), (1, 16), (2, 0), (3, 0)] [11] _)
        refine sd_aload_n hC 16 dX1_someGateLets_23 rfl (by decide) (by decide) (?_ : Sd X 24 [(0, 11), (1, 16), (2, 0), (3, 0)] [16, 11] _)
        refine sd_iload_n hC dX1_someGateLets_24 rfl (by decide) (?_ : Sd X 25 [(0, 11), (1, 16), (2, 0), (3, 0)] [0, 16, 11] _)
        refine sd_inv0 (τ := []) (τr := [16, 0]) (ci := 1) (q := (RX1, TX1, 12)) hC WG (M_X1_letsThrough _) rfl rfl rfl rfl  rfl rfl wl_4_54 wl_3_162 wl_3_163 wl_1_2 wl_3_164 hd_X1_letsThrough (by rw [e3]; decide) (by decide) dX1_someGateLets_25 (?_ : Sd X 28 [(0, 11), (1, 16), (2, 0), (3, 0)] [0] _)
        refine sd_if_eq (tgt := 33) hC dX1_someGateLets_28 rfl (?_ : Sd X 33 [(0, 11), (1, 16), (2, 0), (3, 0)] [] _) (?_ : Sd X 31 [(0, 11), (1, 16), (2, 0), (3, 0)] [] _)
        · exact Sd.weak (by decide) (S_33 k2 h2)
        · refine sd_iconst hC dX1_someGateLets_31 ⟨by decide, by decide⟩ (?_ : Sd X 32 [(0, 11), (1, 16), (2, 0), (3, 0)] [0] _)
          exact sd_zreturn hC hT dX1_someGateLets_32
  refine (?_ : Sd X 0 [(0, 11), (1, 16), (2, 0)] [] (E_X1_someGateLets Q))
  unfold E_X1_someGateLets
  refine sd_iconst hC dX1_someGateLets_0 ⟨by decide, by decide⟩ (?_ : Sd X 1 [(0, 11), (1, 16), (2, 0)] [0] _)
  refine sd_istore_n (Γ' := [(0, 11), (1, 16), (2, 0), (3, 0)]) hC dX1_someGateLets_1 rfl (by rw [e2]; decide) (by decide) (?_ : Sd X 2 [(0, 11), (1, 16), (2, 0), (3, 0)] [] _)
  exact Sd.weak (by decide) (S_2)

theorem wl_5_14 : Cond.methodLink RX8 272 yX1_daysOf ∈ WALL := tb5 (List.mem_of_getElem? (i := 14) rfl) rfl
theorem wl_5_15 : Cond.instanceMethod yX1_daysOf ∈ WALL := tb5 (List.mem_of_getElem? (i := 15) rfl) rfl
theorem wl_5_16 : Cond.selects RX1 yX1_daysOf yX1_daysOf ∈ WALL := tb5 (List.mem_of_getElem? (i := 16) rfl) rfl
theorem wl_5_17 : Cond.code yX1_daysOf cX1_daysOf 5 (some .int) ∈ WALL := tb5 (List.mem_of_getElem? (i := 17) rfl) rfl
theorem hd_X8_hold : yX8_hold.cls ≠ "java/lang/invoke/MethodHandle" ∧ yX8_hold.cls ≠ "java/lang/invoke/VarHandle" ∧ (parseMethodDescriptor yX8_hold.desc).map (fun d => d.parameters.length) = some 1 := by decide +kernel
set_option maxRecDepth 100000 in
set_option maxHeartbeats 4000000 in
theorem M_X8_hold (l : Launch) : Mt l yX8_hold (Cond.code yX8_hold cX8_hold 2 (some .int) :: WALL) { frames := 2, cells := 0, slots := 0, locals := 42 } [18, 0] (some 0) T_X8_hold := by
  refine Mt.mk (B := E_X8_hold) (by decide +kernel) (by decide) (fun _ _ _ hh => hh) ?_
  intro X Q e1 e2 e3 hC hN hT
  subst e1
  have hC : CF X cX8_hold RX8 WALL := hC
  refine (?_ : Sd X 0 [(0, 18), (1, 0)] [] (E_X8_hold Q))
  unfold E_X8_hold
  refine sd_aload_n hC 18 dX8_hold_0 rfl (by decide) (by decide) (?_ : Sd X 1 [(0, 18), (1, 0)] [18] _)
  refine sd_iload_n hC dX8_hold_1 rfl (by decide) (?_ : Sd X 2 [(0, 18), (1, 0)] [0, 18] _)
  refine sd_inv0 (τ := []) (τr := [0]) (ci := 8) (q := (RX8, TX8, 18)) hC WG (M_X8_isRing _) rfl rfl rfl rfl  rfl rfl wl_4_13 wl_4_15 wp_36 wl_1_1 wl_4_16 hd_X8_isRing (by rw [e3]; decide) (by decide) dX8_hold_2 (?_ : Sd X 5 [(0, 18), (1, 0)] [0] _)
  refine sd_if_ne (tgt := 14) hC dX8_hold_5 rfl (?_ : Sd X 14 [(0, 18), (1, 0)] [] _) (?_ : Sd X 8 [(0, 18), (1, 0)] [] _)
  · refine sd_aload_n hC 18 dX8_hold_14 rfl (by decide) (by decide) (?_ : Sd X 15 [(0, 18), (1, 0)] [18] _)
    refine sd_aload_n hC 18 dX8_hold_15 rfl (by decide) (by decide) (?_ : Sd X 16 [(0, 18), (1, 0)] [18, 18] _)
    refine sd_get hC (ci := 8) (j := 2) (C := RX8) (T := TX8) (N := 18) rfl rfl (by decide) in_X8 wl_2_110 dX8_hold_16 (?_ : Sd X 19 [(0, 18), (1, 0)] [11, 18] _)
    refine sd_iload_n hC dX8_hold_19 rfl (by decide) (?_ : Sd X 20 [(0, 18), (1, 0)] [0, 11, 18] _)
    refine sd_inv0 (τ := [18]) (τr := [0]) (ci := 1) (q := (RX1, TX1, 12)) hC WG (M_X1_daysOf _) rfl rfl rfl rfl  rfl rfl wl_5_14 wl_5_15 wl_5_16 wl_1_2 wl_5_17 hd_X1_daysOf (by rw [e3]; decide) (by decide) dX8_hold_20 (?_ : Sd X 23 [(0, 18), (1, 0)] [0, 18] _)
    refine sd_inv0 (τ := []) (τr := [0]) (ci := 8) (q := (RX8, TX8, 18)) hC WG (M_X8_grant _) rfl rfl rfl rfl  rfl rfl wl_3_225 wl_3_227 wp_34 wl_1_1 wl_3_228 hd_X8_grant (by rw [e3]; decide) (by decide) dX8_hold_23 (?_ : Sd X 26 [(0, 18), (1, 0)] [0] _)
    exact sd_ireturn hC hT dX8_hold_26
  · refine sd_aload_n hC 18 dX8_hold_8 rfl (by decide) (by decide) (?_ : Sd X 9 [(0, 18), (1, 0)] [18] _)
    refine sd_iconst hC dX8_hold_9 ⟨by decide, by decide⟩ (?_ : Sd X 10 [(0, 18), (1, 0)] [0, 18] _)
    refine sd_inv0 (τ := []) (τr := [0]) (ci := 8) (q := (RX8, TX8, 18)) hC WG (M_X8_refuse _) rfl rfl rfl rfl  rfl rfl wl_2_175 wl_2_177 wp_1 wl_1_1 wl_2_178 hd_X8_refuse (by rw [e3]; decide) (by decide) dX8_hold_10 (?_ : Sd X 13 [(0, 18), (1, 0)] [0] _)
    exact sd_ireturn hC hT dX8_hold_13
theorem wl_4_63 : Cond.methodLink RX8 177 yX8_ask ∈ WALL := tb4 (List.mem_of_getElem? (i := 63) rfl) rfl
theorem wl_4_65 : Cond.instanceMethod yX8_ask ∈ WALL := tb4 (List.mem_of_getElem? (i := 65) rfl) rfl
theorem wp_40 : Cond.selects RX8 yX8_ask yX8_ask ∈ WALL := tbS (List.mem_of_getElem? (i := 40) rfl)
theorem wl_4_66 : Cond.code yX8_ask cX8_ask 6 (some .boolean) ∈ WALL := tb4 (List.mem_of_getElem? (i := 66) rfl) rfl
theorem wl_2_3 : Cond.fieldLink RX8 188 "NarrowRings$Way" "hours" "I" ∈ WALL := tb2 (List.mem_of_getElem? (i := 3) rfl) rfl
theorem hd_X8_hours : yX8_hours.cls ≠ "java/lang/invoke/MethodHandle" ∧ yX8_hours.cls ≠ "java/lang/invoke/VarHandle" ∧ (parseMethodDescriptor yX8_hours.desc).map (fun d => d.parameters.length) = some 5 := by decide +kernel
set_option maxRecDepth 100000 in
set_option maxHeartbeats 4000000 in
theorem M_X8_hours (l : Launch) : Mt l yX8_hours (Cond.code yX8_hours cX8_hours 6 (some .int) :: WALL) { frames := 6, cells := 0, slots := 0, locals := 149 } [18, 0, 0, 0, 0, 0] (some 0) T_X8_hours := by
  refine Mt.mk (B := E_X8_hours) (by decide +kernel) (by decide) (fun _ _ _ hh => hh) ?_
  intro X Q e1 e2 e3 hC hN hT
  subst e1
  have hC : CF X cX8_hours RX8 WALL := hC
  have S_43 : Sd X 43 [(0, 18), (1, 0), (2, 0), (3, 0), (4, 0), (5, 0)] [0, 18] (B_X8_hours_43 Q) := by
    unfold B_X8_hours_43
    refine sd_inv0 (τ := []) (τr := [0]) (ci := 8) (q := (RX8, TX8, 18)) hC WG (M_X8_grant _) rfl rfl rfl rfl  rfl rfl wl_3_225 wl_3_227 wp_34 wl_1_1 wl_3_228 hd_X8_grant (by rw [e3]; decide) (by decide) dX8_hours_43 (?_ : Sd X 46 [(0, 18), (1, 0), (2, 0), (3, 0), (4, 0), (5, 0)] [0] _)
    exact sd_ireturn hC hT dX8_hours_46
  refine (?_ : Sd X 0 [(0, 18), (1, 0), (2, 0), (3, 0), (4, 0), (5, 0)] [] (E_X8_hours Q))
  unfold E_X8_hours
  refine sd_aload_n hC 18 dX8_hours_0 rfl (by decide) (by decide) (?_ : Sd X 1 [(0, 18), (1, 0), (2, 0), (3, 0), (4, 0), (5, 0)] [18] _)
  refine sd_iload_n hC dX8_hours_1 rfl (by decide) (?_ : Sd X 2 [(0, 18), (1, 0), (2, 0), (3, 0), (4, 0), (5, 0)] [0, 18] _)
  refine sd_iload_n hC dX8_hours_2 rfl (by decide) (?_ : Sd X 3 [(0, 18), (1, 0), (2, 0), (3, 0), (4, 0), (5, 0)] [0, 0, 18] _)
  refine sd_iload_n hC dX8_hours_3 rfl (by decide) (?_ : Sd X 4 [(0, 18), (1, 0), (2, 0), (3, 0), (4, 0), (5, 0)] [0, 0, 0, 18] _)
  refine sd_iload hC dX8_hours_4 (by decide) (?_ : Sd X 6 [(0, 18), (1, 0), (2, 0), (3, 0), (4, 0), (5, 0)] [0, 0, 0, 0, 18] _)
  refine sd_iload hC dX8_hours_6 (by decide) (?_ : Sd X 8 [(0, 18), (1, 0), (2, 0), (3, 0), (4, 0), (5, 0)] [0, 0, 0, 0, 0, 18] _)
  refine sd_inv0 (τ := []) (τr := [0, 0, 0, 0, 0]) (ci := 8) (q := (RX8, TX8, 18)) hC WG (M_X8_ask _) rfl rfl rfl rfl  rfl rfl wl_4_63 wl_4_65 wp_40 wl_1_1 wl_4_66 hd_X8_ask (by rw [e3]; decide) (by decide) dX8_hours_8 (?_ : Sd X 11 [(0, 18), (1, 0), (2, 0), (3, 0), (4, 0), (5, 0)] [0] _)
  refine sd_if_ne (tgt := 20) hC dX8_hours_11 rfl (?_ : Sd X 20 [(0, 18), (1, 0), (2, 0), (3, 0), (4, 0), (5, 0)] [] _) (?_ : Sd X 14 [(0, 18), (1, 0), (2, 0), (3, 0), (4, 0), (5, 0)] [] _)
  · refine sd_aload_n hC 18 dX8_hours_20 rfl (by decide) (by decide) (?_ : Sd X 21 [(0, 18), (1, 0), (2, 0), (3, 0), (4, 0), (5, 0)] [18] _)
    refine sd_aload_n hC 18 dX8_hours_21 rfl (by decide) (by decide) (?_ : Sd X 22 [(0, 18), (1, 0), (2, 0), (3, 0), (4, 0), (5, 0)] [18, 18] _)
    refine sd_get hC (ci := 8) (j := 7) (C := RX8) (T := TX8) (N := 18) rfl rfl (by decide) in_X8 wl_2_115 dX8_hours_22 (?_ : Sd X 25 [(0, 18), (1, 0), (2, 0), (3, 0), (4, 0), (5, 0)] [17, 18] _)
    refine sd_get hC (ci := 7) (j := 0) (C := RX7) (T := TX7) (N := 7) rfl rfl (by decide) in_X7 wl_1_235 dX8_hours_25 (?_ : Sd X 28 [(0, 18), (1, 0), (2, 0), (3, 0), (4, 0), (5, 0)] [0, 18] _)
    refine sd_if_eq (tgt := 41) hC dX8_hours_28 rfl (?_ : Sd X 41 [(0, 18), (1, 0), (2, 0), (3, 0), (4, 0), (5, 0)] [18] _) (?_ : Sd X 31 [(0, 18), (1, 0), (2, 0), (3, 0), (4, 0), (5, 0)] [18] _)
    · refine sd_bipush hC dX8_hours_41 (by decide) (?_ : Sd X 43 [(0, 18), (1, 0), (2, 0), (3, 0), (4, 0), (5, 0)] [0, 18] _)
      exact Sd.weak (by decide) (S_43)
    · refine sd_aload_n hC 18 dX8_hours_31 rfl (by decide) (by decide) (?_ : Sd X 32 [(0, 18), (1, 0), (2, 0), (3, 0), (4, 0), (5, 0)] [18, 18] _)
      refine sd_get hC (ci := 8) (j := 7) (C := RX8) (T := TX8) (N := 18) rfl rfl (by decide) in_X8 wl_2_115 dX8_hours_32 (?_ : Sd X 35 [(0, 18), (1, 0), (2, 0), (3, 0), (4, 0), (5, 0)] [17, 18] _)
      refine sd_get hC (ci := 7) (j := 3) (C := RX7) (T := TX7) (N := 7) rfl rfl (by decide) in_X7 wl_2_3 dX8_hours_35 (?_ : Sd X 38 [(0, 18), (1, 0), (2, 0), (3, 0), (4, 0), (5, 0)] [0, 18] _)
      refine sd_goto (tgt := 43) hC dX8_hours_38 rfl (?_ : Sd X 43 [(0, 18), (1, 0), (2, 0), (3, 0), (4, 0), (5, 0)] [0, 18] _)
      exact Sd.weak (by decide) (S_43)
  · refine sd_aload_n hC 18 dX8_hours_14 rfl (by decide) (by decide) (?_ : Sd X 15 [(0, 18), (1, 0), (2, 0), (3, 0), (4, 0), (5, 0)] [18] _)
    refine sd_iconst hC dX8_hours_15 ⟨by decide, by decide⟩ (?_ : Sd X 16 [(0, 18), (1, 0), (2, 0), (3, 0), (4, 0), (5, 0)] [0, 18] _)
    refine sd_inv0 (τ := []) (τr := [0]) (ci := 8) (q := (RX8, TX8, 18)) hC WG (M_X8_refuse _) rfl rfl rfl rfl  rfl rfl wl_2_175 wl_2_177 wp_1 wl_1_1 wl_2_178 hd_X8_refuse (by rw [e3]; decide) (by decide) dX8_hours_16 (?_ : Sd X 19 [(0, 18), (1, 0), (2, 0), (3, 0), (4, 0), (5, 0)] [0] _)
    exact sd_ireturn hC hT dX8_hours_19
theorem hd_X8_hoursOf : yX8_hoursOf.cls ≠ "java/lang/invoke/MethodHandle" ∧ yX8_hoursOf.cls ≠ "java/lang/invoke/VarHandle" ∧ (parseMethodDescriptor yX8_hoursOf.desc).map (fun d => d.parameters.length) = some 1 := by decide +kernel
set_option maxRecDepth 100000 in
set_option maxHeartbeats 4000000 in
theorem M_X8_hoursOf (l : Launch) : Mt l yX8_hoursOf (Cond.code yX8_hoursOf cX8_hoursOf 2 (some .int) :: WALL) { frames := 2, cells := 0, slots := 0, locals := 42 } [18, 0] (some 0) T_X8_hoursOf := by
  refine Mt.mk (B := E_X8_hoursOf) (by decide +kernel) (by decide) (fun _ _ _ hh => hh) ?_
  intro X Q e1 e2 e3 hC hN hT
  subst e1
  have hC : CF X cX8_hoursOf RX8 WALL := hC
  have S_41 : Sd X 41 [(0, 18), (1, 0)] [0, 18] (B_X8_hoursOf_41 Q) := by
    unfold B_X8_hoursOf_41
    refine sd_inv0 (τ := []) (τr := [0]) (ci := 8) (q := (RX8, TX8, 18)) hC WG (M_X8_grant _) rfl rfl rfl rfl  rfl rfl wl_3_225 wl_3_227 wp_34 wl_1_1 wl_3_228 hd_X8_grant (by rw [e3]; decide) (by decide) dX8_hoursOf_41 (?_ : Sd X 44 [(0, 18), (1, 0)] [0] _)
    exact sd_ireturn hC hT dX8_hoursOf_44
  refine (?_ : Sd X 0 [(0, 18), (1, 0)] [] (E_X8_hoursOf Q))
  unfold E_X8_hoursOf
  refine sd_aload_n hC 18 dX8_hoursOf_0 rfl (by decide) (by decide) (?_ : Sd X 1 [(0, 18), (1, 0)] [18] _)
  refine sd_iload_n hC dX8_hoursOf_1 rfl (by decide) (?_ : Sd X 2 [(0, 18), (1, 0)] [0, 18] _)
  refine sd_inv0 (τ := []) (τr := [0]) (ci := 8) (q := (RX8, TX8, 18)) hC WG (M_X8_isOrder _) rfl rfl rfl rfl  rfl rfl wl_4_79 wl_4_81 wp_42 wl_1_1 wl_4_82 hd_X8_isOrder (by rw [e3]; decide) (by decide) dX8_hoursOf_2 (?_ : Sd X 5 [(0, 18), (1, 0)] [0] _)
  refine sd_if_ne (tgt := 14) hC dX8_hoursOf_5 rfl (?_ : Sd X 14 [(0, 18), (1, 0)] [] _) (?_ : Sd X 8 [(0, 18), (1, 0)] [] _)
  · refine sd_aload_n hC 18 dX8_hoursOf_14 rfl (by decide) (by decide) (?_ : Sd X 15 [(0, 18), (1, 0)] [18] _)
    refine sd_aload_n hC 18 dX8_hoursOf_15 rfl (by decide) (by decide) (?_ : Sd X 16 [(0, 18), (1, 0)] [18, 18] _)
    refine sd_get hC (ci := 8) (j := 6) (C := RX8) (T := TX8) (N := 18) rfl rfl (by decide) in_X8 wl_2_114 dX8_hoursOf_16 (?_ : Sd X 19 [(0, 18), (1, 0)] [117, 18] _)
    refine sd_iload_n hC dX8_hoursOf_19 rfl (by decide) (?_ : Sd X 20 [(0, 18), (1, 0)] [0, 117, 18] _)
    refine sd_aaload (e := 17) hC (List.mem_of_getElem? (i := 6) rfl) rfl rfl dX8_hoursOf_20 (?_ : Sd X 21 [(0, 18), (1, 0)] [17, 18] _)
    refine sd_get hC (ci := 7) (j := 0) (C := RX7) (T := TX7) (N := 7) rfl rfl (by decide) in_X7 wl_1_235 dX8_hoursOf_21 (?_ : Sd X 24 [(0, 18), (1, 0)] [0, 18] _)
    refine sd_if_eq (tgt := 39) hC dX8_hoursOf_24 rfl (?_ : Sd X 39 [(0, 18), (1, 0)] [18] _) (?_ : Sd X 27 [(0, 18), (1, 0)] [18] _)
    · refine sd_bipush hC dX8_hoursOf_39 (by decide) (?_ : Sd X 41 [(0, 18), (1, 0)] [0, 18] _)
      exact Sd.weak (by decide) (S_41)
    · refine sd_aload_n hC 18 dX8_hoursOf_27 rfl (by decide) (by decide) (?_ : Sd X 28 [(0, 18), (1, 0)] [18, 18] _)
      refine sd_get hC (ci := 8) (j := 6) (C := RX8) (T := TX8) (N := 18) rfl rfl (by decide) in_X8 wl_2_114 dX8_hoursOf_28 (?_ : Sd X 31 [(0, 18), (1, 0)] [117, 18] _)
      refine sd_iload_n hC dX8_hoursOf_31 rfl (by decide) (?_ : Sd X 32 [(0, 18), (1, 0)] [0, 117, 18] _)
      refine sd_aaload (e := 17) hC (List.mem_of_getElem? (i := 6) rfl) rfl rfl dX8_hoursOf_32 (?_ : Sd X 33 [(0, 18), (1, 0)] [17, 18] _)
      refine sd_get hC (ci := 7) (j := 3) (C := RX7) (T := TX7) (N := 7) rfl rfl (by decide) in_X7 wl_2_3 dX8_hoursOf_33 (?_ : Sd X 36 [(0, 18), (1, 0)] [0, 18] _)
      refine sd_goto (tgt := 41) hC dX8_hoursOf_36 rfl (?_ : Sd X 41 [(0, 18), (1, 0)] [0, 18] _)
      exact Sd.weak (by decide) (S_41)
  · refine sd_aload_n hC 18 dX8_hoursOf_8 rfl (by decide) (by decide) (?_ : Sd X 9 [(0, 18), (1, 0)] [18] _)
    refine sd_iconst hC dX8_hoursOf_9 ⟨by decide, by decide⟩ (?_ : Sd X 10 [(0, 18), (1, 0)] [0, 18] _)
    refine sd_inv0 (τ := []) (τr := [0]) (ci := 8) (q := (RX8, TX8, 18)) hC WG (M_X8_refuse _) rfl rfl rfl rfl  rfl rfl wl_2_175 wl_2_177 wp_1 wl_1_1 wl_2_178 hd_X8_refuse (by rw [e3]; decide) (by decide) dX8_hoursOf_10 (?_ : Sd X 13 [(0, 18), (1, 0)] [0] _)
    exact sd_ireturn hC hT dX8_hoursOf_13
theorem wl_1_28 : Cond.methodLink RX8 1 Lib.objectInit ∈ WALL := tb1 (List.mem_of_getElem? (i := 28) rfl) rfl
theorem wl_1_31 : Cond.classLink RX8 13 RX1 ∈ WALL := tb1 (List.mem_of_getElem? (i := 31) rfl) rfl
theorem wl_1_32 : Cond.instantiable RX1 12 ∈ WALL := tb1 (List.mem_of_getElem? (i := 32) rfl) rfl
theorem wl_1_33 : Cond.methodLink RX8 15 yX1_init ∈ WALL := tb1 (List.mem_of_getElem? (i := 33) rfl) rfl
theorem wl_1_34 : Cond.instanceMethod yX1_init ∈ WALL := tb1 (List.mem_of_getElem? (i := 34) rfl) rfl
theorem wl_1_35 : Cond.code yX1_init cX1_init 2 none ∈ WALL := tb1 (List.mem_of_getElem? (i := 35) rfl) rfl
theorem wl_2_111 : Cond.fieldLink RX8 20 "NarrowRings" "spare" "LNarrowRings$City;" ∈ WALL := tb2 (List.mem_of_getElem? (i := 111) rfl) rfl
theorem wl_1_146 : Cond.classLink RX8 23 RX4 ∈ WALL := tb1 (List.mem_of_getElem? (i := 146) rfl) rfl
theorem wl_1_147 : Cond.instantiable RX4 15 ∈ WALL := tb1 (List.mem_of_getElem? (i := 147) rfl) rfl
theorem wl_1_148 : Cond.methodLink RX8 25 yX4_init ∈ WALL := tb1 (List.mem_of_getElem? (i := 148) rfl) rfl
theorem wl_1_149 : Cond.instanceMethod yX4_init ∈ WALL := tb1 (List.mem_of_getElem? (i := 149) rfl) rfl
theorem wl_1_150 : Cond.code yX4_init cX4_init 3 none ∈ WALL := tb1 (List.mem_of_getElem? (i := 150) rfl) rfl
theorem wl_2_112 : Cond.fieldLink RX8 28 "NarrowRings" "reader" "LNarrowRings$Reader;" ∈ WALL := tb2 (List.mem_of_getElem? (i := 112) rfl) rfl
theorem wl_1_200 : Cond.classLink RX8 32 RX3 ∈ WALL := tb1 (List.mem_of_getElem? (i := 200) rfl) rfl
theorem wl_1_201 : Cond.instantiable RX3 6 ∈ WALL := tb1 (List.mem_of_getElem? (i := 201) rfl) rfl
theorem wl_1_202 : Cond.methodLink RX8 34 yX3_init ∈ WALL := tb1 (List.mem_of_getElem? (i := 202) rfl) rfl
theorem wl_1_203 : Cond.instanceMethod yX3_init ∈ WALL := tb1 (List.mem_of_getElem? (i := 203) rfl) rfl
theorem wl_1_204 : Cond.code yX3_init cX3_init 2 none ∈ WALL := tb1 (List.mem_of_getElem? (i := 204) rfl) rfl
theorem wl_1_225 : Cond.classLink RX8 41 RX7 ∈ WALL := tb1 (List.mem_of_getElem? (i := 225) rfl) rfl
theorem wl_1_227 : Cond.instantiable RX7 7 ∈ WALL := tb1 (List.mem_of_getElem? (i := 227) rfl) rfl
theorem wl_1_228 : Cond.methodLink RX8 47 yX7_init ∈ WALL := tb1 (List.mem_of_getElem? (i := 228) rfl) rfl
theorem wl_1_229 : Cond.instanceMethod yX7_init ∈ WALL := tb1 (List.mem_of_getElem? (i := 229) rfl) rfl
theorem wl_1_230 : Cond.code yX7_init cX7_init 1 none ∈ WALL := tb1 (List.mem_of_getElem? (i := 230) rfl) rfl
theorem wl_2_29 : Cond.classLink RX8 55 RX2 ∈ WALL := tb2 (List.mem_of_getElem? (i := 29) rfl) rfl
theorem wl_2_30 : Cond.instantiable RX2 10 ∈ WALL := tb2 (List.mem_of_getElem? (i := 30) rfl) rfl
theorem wl_2_31 : Cond.methodLink RX8 57 yX2_init ∈ WALL := tb2 (List.mem_of_getElem? (i := 31) rfl) rfl
theorem wl_2_32 : Cond.instanceMethod yX2_init ∈ WALL := tb2 (List.mem_of_getElem? (i := 32) rfl) rfl
theorem wl_2_33 : Cond.code yX2_init cX2_init 3 none ∈ WALL := tb2 (List.mem_of_getElem? (i := 33) rfl) rfl
theorem wl_2_75 : Cond.classLink RX8 68 RX0 ∈ WALL := tb2 (List.mem_of_getElem? (i := 75) rfl) rfl
theorem wl_2_76 : Cond.instantiable RX0 2 ∈ WALL := tb2 (List.mem_of_getElem? (i := 76) rfl) rfl
theorem wl_2_77 : Cond.methodLink RX8 70 yX0_init ∈ WALL := tb2 (List.mem_of_getElem? (i := 77) rfl) rfl
theorem wl_2_78 : Cond.instanceMethod yX0_init ∈ WALL := tb2 (List.mem_of_getElem? (i := 78) rfl) rfl
theorem wl_2_79 : Cond.code yX0_init cX0_init 1 none ∈ WALL := tb2 (List.mem_of_getElem? (i := 79) rfl) rfl
theorem wl_2_90 : Cond.classLink RX8 75 RX5 ∈ WALL := tb2 (List.mem_of_getElem? (i := 90) rfl) rfl
theorem wl_2_91 : Cond.instantiable RX5 3 ∈ WALL := tb2 (List.mem_of_getElem? (i := 91) rfl) rfl
theorem wl_2_92 : Cond.methodLink RX8 77 yX5_init ∈ WALL := tb2 (List.mem_of_getElem? (i := 92) rfl) rfl
theorem wl_2_93 : Cond.instanceMethod yX5_init ∈ WALL := tb2 (List.mem_of_getElem? (i := 93) rfl) rfl
theorem wl_2_94 : Cond.code yX5_init cX5_init 1 none ∈ WALL := tb2 (List.mem_of_getElem? (i := 94) rfl) rfl
theorem wl_2_121 : Cond.fieldLink RX8 78 "NarrowRings" "thief" "LNarrowRings$Thief;" ∈ WALL := tb2 (List.mem_of_getElem? (i := 121) rfl) rfl
theorem wl_2_106 : Cond.classLink RX8 82 RX6 ∈ WALL := tb2 (List.mem_of_getElem? (i := 106) rfl) rfl
theorem wl_2_107 : Cond.methodLink RX8 84 yX6_init ∈ WALL := tb2 (List.mem_of_getElem? (i := 107) rfl) rfl
theorem wl_2_122 : Cond.fieldLink RX8 85 "NarrowRings" "rammer" "LNarrowRings$Thing;" ∈ WALL := tb2 (List.mem_of_getElem? (i := 122) rfl) rfl
theorem hd_X8_init : yX8_init.cls ≠ "java/lang/invoke/MethodHandle" ∧ yX8_init.cls ≠ "java/lang/invoke/VarHandle" ∧ (parseMethodDescriptor yX8_init.desc).map (fun d => d.parameters.length) = some 0 := by decide +kernel
set_option maxRecDepth 100000 in
set_option maxHeartbeats 4000000 in
theorem M_X8_init (l : Launch) : Mt l yX8_init (Cond.code yX8_init cX8_init 2 none :: WALL) { frames := 3, cells := 328, slots := 5521, locals := 61 } [18] none T_X8_init := by
  refine Mt.mk (B := E_X8_init) (by decide +kernel) (by decide) (fun _ _ _ hh => hh) ?_
  intro X Q e1 e2 e3 hC hN hT
  subst e1
  have hC : CF X cX8_init RX8 WALL := hC
  have S_153 : Sd X 153 [(0, 18), (1, 0)] [] (L_X8_init_153 Q) := by
    unfold L_X8_init_153
    refine Sd.loop (fun k153 h153 => ?_)
    refine sd_iload_n hC dX8_init_153 rfl (by decide) (?_ : Sd X 154 [(0, 18), (1, 0)] [0] _)
    refine sd_iconst hC dX8_init_154 ⟨by decide, by decide⟩ (?_ : Sd X 155 [(0, 18), (1, 0)] [0, 0] _)
    refine sd_icmp_ge (tgt := 185) hC dX8_init_155 rfl (?_ : Sd X 185 [(0, 18), (1, 0)] [] _) (?_ : Sd X 158 [(0, 18), (1, 0)] [] _)
    · refine sd_aload_n hC 18 dX8_init_185 rfl (by decide) (by decide) (?_ : Sd X 186 [(0, 18), (1, 0)] [18] _)
      refine sd_new hC (ci := 0) (C := RX0) (T := TX0) (N := 2) tyX0 tyX0_ok (by decide) rfl in_X0 wl_2_75 wl_2_76 wl_1_8 (by rw [e3]) (by rw [e3]) dX8_init_186 (?_ : Sd X 189 [(0, 18), (1, 0)] [10, 18] _)
      refine sd_dup hC (by decide) dX8_init_189 (?_ : Sd X 190 [(0, 18), (1, 0)] [10, 10, 18] _)
      refine sd_invi (τ := [10, 18]) (τr := []) (ci := 0) hC WG (M_X0_init _) rfl rfl rfl rfl (by rw [e3]) (by rw [e3]) rfl wl_2_77 wl_2_78 wl_1_8 wl_2_79 hd_X0_init (by rw [e3]; decide) (by decide) dX8_init_190 (?_ : Sd X 193 [(0, 18), (1, 0)] [10, 18] _)
      refine sd_putF hC (ci := 8) (j := 12) (C := RX8) (T := TX8) (N := 18) tyX8 tyX8_ok nmX8 rfl rfl (by decide) in_X8 rfl rfl rfl hN wl_2_120 dX8_init_193 (?_ : Sd X 196 [(0, 18), (1, 0)] [] _)
      refine sd_aload_n hC 18 dX8_init_196 rfl (by decide) (by decide) (?_ : Sd X 197 [(0, 18), (1, 0)] [18] _)
      refine sd_new hC (ci := 5) (C := RX5) (T := TX5) (N := 3) tyX5 tyX5_ok (by decide) rfl in_X5 wl_2_90 wl_2_91 wl_1_9 (by rw [e3]) (by rw [e3]) dX8_init_197 (?_ : Sd X 200 [(0, 18), (1, 0)] [15, 18] _)
      refine sd_dup hC (by decide) dX8_init_200 (?_ : Sd X 201 [(0, 18), (1, 0)] [15, 15, 18] _)
      refine sd_invi (τ := [15, 18]) (τr := []) (ci := 5) hC WG (M_X5_init _) rfl rfl rfl rfl (by rw [e3]) (by rw [e3]) rfl wl_2_92 wl_2_93 wl_1_9 wl_2_94 hd_X5_init (by rw [e3]; decide) (by decide) dX8_init_201 (?_ : Sd X 204 [(0, 18), (1, 0)] [15, 18] _)
      refine sd_putF hC (ci := 8) (j := 13) (C := RX8) (T := TX8) (N := 18) tyX8 tyX8_ok nmX8 rfl rfl (by decide) in_X8 rfl rfl rfl hN wl_2_121 dX8_init_204 (?_ : Sd X 207 [(0, 18), (1, 0)] [] _)
      refine sd_aload_n hC 18 dX8_init_207 rfl (by decide) (by decide) (?_ : Sd X 208 [(0, 18), (1, 0)] [18] _)
      refine sd_new hC (ci := 6) (C := RX6) (T := TX6) (N := 7) tyX6 tyX6_ok (by decide) rfl in_X6 wl_2_106 wl_1_41 wl_1_3 (by rw [e3]) (by rw [e3]) dX8_init_208 (?_ : Sd X 211 [(0, 18), (1, 0)] [16, 18] _)
      refine sd_dup hC (by decide) dX8_init_211 (?_ : Sd X 212 [(0, 18), (1, 0)] [16, 16, 18] _)
      refine sd_invi (τ := [16, 18]) (τr := []) (ci := 6) hC WG (M_X6_init _) rfl rfl rfl rfl (by rw [e3]) (by rw [e3]) rfl wl_2_107 wl_1_43 wl_1_3 wl_1_44 hd_X6_init (by rw [e3]; decide) (by decide) dX8_init_212 (?_ : Sd X 215 [(0, 18), (1, 0)] [16, 18] _)
      refine sd_putF hC (ci := 8) (j := 14) (C := RX8) (T := TX8) (N := 18) tyX8 tyX8_ok nmX8 rfl rfl (by decide) in_X8 rfl rfl rfl hN wl_2_122 dX8_init_215 (?_ : Sd X 218 [(0, 18), (1, 0)] [] _)
      exact sd_return hC hT dX8_init_218
    · refine sd_aload_n hC 18 dX8_init_158 rfl (by decide) (by decide) (?_ : Sd X 159 [(0, 18), (1, 0)] [18] _)
      refine sd_get hC (ci := 8) (j := 10) (C := RX8) (T := TX8) (N := 18) rfl rfl (by decide) in_X8 wl_2_118 dX8_init_159 (?_ : Sd X 162 [(0, 18), (1, 0)] [112] _)
      refine sd_iload_n hC dX8_init_162 rfl (by decide) (?_ : Sd X 163 [(0, 18), (1, 0)] [0, 112] _)
      refine sd_new hC (ci := 2) (C := RX2) (T := TX2) (N := 10) tyX2 tyX2_ok (by decide) rfl in_X2 wl_2_29 wl_2_30 wl_1_7 (by rw [e3]) (by rw [e3]) dX8_init_163 (?_ : Sd X 166 [(0, 18), (1, 0)] [12, 0, 112] _)
      refine sd_dup hC (by decide) dX8_init_166 (?_ : Sd X 167 [(0, 18), (1, 0)] [12, 12, 0, 112] _)
      refine sd_aload_n hC 18 dX8_init_167 rfl (by decide) (by decide) (?_ : Sd X 168 [(0, 18), (1, 0)] [18, 12, 12, 0, 112] _)
      refine sd_get hC (ci := 8) (j := 2) (C := RX8) (T := TX8) (N := 18) rfl rfl (by decide) in_X8 wl_2_110 dX8_init_168 (?_ : Sd X 171 [(0, 18), (1, 0)] [11, 12, 12, 0, 112] _)
      refine sd_aload_n hC 18 dX8_init_171 rfl (by decide) (by decide) (?_ : Sd X 172 [(0, 18), (1, 0)] [18, 11, 12, 12, 0, 112] _)
      refine sd_get hC (ci := 8) (j := 6) (C := RX8) (T := TX8) (N := 18) rfl rfl (by decide) in_X8 wl_2_114 dX8_init_172 (?_ : Sd X 175 [(0, 18), (1, 0)] [117, 11, 12, 12, 0, 112] _)
      refine sd_invi (τ := [12, 0, 112]) (τr := [11, 117]) (ci := 2) hC WG (M_X2_init _) rfl rfl rfl rfl (by rw [e3]) (by rw [e3]) rfl wl_2_31 wl_2_32 wl_1_7 wl_2_33 hd_X2_init (by rw [e3]; decide) (by decide) dX8_init_175 (?_ : Sd X 178 [(0, 18), (1, 0)] [12, 0, 112] _)
      refine sd_aastore hC (ci := 2) (q := (RX2, TX2, 10)) (List.mem_of_getElem? (i := 4) rfl) rfl dX8_init_178 (?_ : Sd X 179 [(0, 18), (1, 0)] [] _)
      refine sd_iinc (Γ' := [(0, 18), (1, 0)]) hC dX8_init_179 (by decide) (by rw [e2]; decide) (by decide) (?_ : Sd X 182 [(0, 18), (1, 0)] [] _)
      refine sd_goto (tgt := 153) hC dX8_init_182 rfl (?_ : Sd X 153 [(0, 18), (1, 0)] [] _)
      exact Sd.weak (by decide) h153
  have S_80 : Sd X 80 [(0, 18), (1, 0)] [] (L_X8_init_80 Q) := by
    unfold L_X8_init_80
    refine Sd.loop (fun k80 h80 => ?_)
    refine sd_iload_n hC dX8_init_80 rfl (by decide) (?_ : Sd X 81 [(0, 18), (1, 0)] [0] _)
    refine sd_bipush hC dX8_init_81 (by decide) (?_ : Sd X 83 [(0, 18), (1, 0)] [0, 0] _)
    refine sd_icmp_ge (tgt := 105) hC dX8_init_83 rfl (?_ : Sd X 105 [(0, 18), (1, 0)] [] _) (?_ : Sd X 86 [(0, 18), (1, 0)] [] _)
    · refine sd_aload_n hC 18 dX8_init_105 rfl (by decide) (by decide) (?_ : Sd X 106 [(0, 18), (1, 0)] [18] _)
      refine sd_new hC (ci := 7) (C := RX7) (T := TX7) (N := 7) tyX7 tyX7_ok (by decide) rfl in_X7 wl_1_225 wl_1_227 wl_1_6 (by rw [e3]) (by rw [e3]) dX8_init_106 (?_ : Sd X 109 [(0, 18), (1, 0)] [17, 18] _)
      refine sd_dup hC (by decide) dX8_init_109 (?_ : Sd X 110 [(0, 18), (1, 0)] [17, 17, 18] _)
      refine sd_invi (τ := [17, 18]) (τr := []) (ci := 7) hC WG (M_X7_init _) rfl rfl rfl rfl (by rw [e3]) (by rw [e3]) rfl wl_1_228 wl_1_229 wl_1_6 wl_1_230 hd_X7_init (by rw [e3]; decide) (by decide) dX8_init_110 (?_ : Sd X 113 [(0, 18), (1, 0)] [17, 18] _)
      refine sd_putF hC (ci := 8) (j := 7) (C := RX8) (T := TX8) (N := 18) tyX8 tyX8_ok nmX8 rfl rfl (by decide) in_X8 rfl rfl rfl hN wl_2_115 dX8_init_113 (?_ : Sd X 116 [(0, 18), (1, 0)] [] _)
      refine sd_aload_n hC 18 dX8_init_116 rfl (by decide) (by decide) (?_ : Sd X 117 [(0, 18), (1, 0)] [18] _)
      refine sd_bipush hC dX8_init_117 (by decide) (?_ : Sd X 119 [(0, 18), (1, 0)] [0, 18] _)
      refine sd_newa hC (e := 0) (List.mem_of_getElem? (i := 0) rfl) (fun C z => by cases z) rfl (by decide) wl_1_76 (by rw [e3]) (by rw [e3]) dX8_init_119 (?_ : Sd X 121 [(0, 18), (1, 0)] [100, 18] _)
      refine sd_putF hC (ci := 8) (j := 8) (C := RX8) (T := TX8) (N := 18) tyX8 tyX8_ok nmX8 rfl rfl (by decide) in_X8 rfl rfl rfl hN wl_2_116 dX8_init_121 (?_ : Sd X 124 [(0, 18), (1, 0)] [] _)
      refine sd_aload_n hC 18 dX8_init_124 rfl (by decide) (by decide) (?_ : Sd X 125 [(0, 18), (1, 0)] [18] _)
      refine sd_new hC (ci := 2) (C := RX2) (T := TX2) (N := 10) tyX2 tyX2_ok (by decide) rfl in_X2 wl_2_29 wl_2_30 wl_1_7 (by rw [e3]) (by rw [e3]) dX8_init_125 (?_ : Sd X 128 [(0, 18), (1, 0)] [12, 18] _)
      refine sd_dup hC (by decide) dX8_init_128 (?_ : Sd X 129 [(0, 18), (1, 0)] [12, 12, 18] _)
      refine sd_aload_n hC 18 dX8_init_129 rfl (by decide) (by decide) (?_ : Sd X 130 [(0, 18), (1, 0)] [18, 12, 12, 18] _)
      refine sd_get hC (ci := 8) (j := 2) (C := RX8) (T := TX8) (N := 18) rfl rfl (by decide) in_X8 wl_2_110 dX8_init_130 (?_ : Sd X 133 [(0, 18), (1, 0)] [11, 12, 12, 18] _)
      refine sd_aload_n hC 18 dX8_init_133 rfl (by decide) (by decide) (?_ : Sd X 134 [(0, 18), (1, 0)] [18, 11, 12, 12, 18] _)
      refine sd_get hC (ci := 8) (j := 6) (C := RX8) (T := TX8) (N := 18) rfl rfl (by decide) in_X8 wl_2_114 dX8_init_134 (?_ : Sd X 137 [(0, 18), (1, 0)] [117, 11, 12, 12, 18] _)
      refine sd_invi (τ := [12, 18]) (τr := [11, 117]) (ci := 2) hC WG (M_X2_init _) rfl rfl rfl rfl (by rw [e3]) (by rw [e3]) rfl wl_2_31 wl_2_32 wl_1_7 wl_2_33 hd_X2_init (by rw [e3]; decide) (by decide) dX8_init_137 (?_ : Sd X 140 [(0, 18), (1, 0)] [12, 18] _)
      refine sd_putF hC (ci := 8) (j := 9) (C := RX8) (T := TX8) (N := 18) tyX8 tyX8_ok nmX8 rfl rfl (by decide) in_X8 rfl rfl rfl hN wl_2_117 dX8_init_140 (?_ : Sd X 143 [(0, 18), (1, 0)] [] _)
      refine sd_aload_n hC 18 dX8_init_143 rfl (by decide) (by decide) (?_ : Sd X 144 [(0, 18), (1, 0)] [18] _)
      refine sd_iconst hC dX8_init_144 ⟨by decide, by decide⟩ (?_ : Sd X 145 [(0, 18), (1, 0)] [0, 18] _)
      refine sd_anew hC (C := RX2) (e := 12) (List.mem_of_getElem? (i := 4) rfl) rfl (by decide) wl_2_29 (by rw [e3]) (by rw [e3]) dX8_init_145 (?_ : Sd X 148 [(0, 18), (1, 0)] [112, 18] _)
      refine sd_putF hC (ci := 8) (j := 10) (C := RX8) (T := TX8) (N := 18) tyX8 tyX8_ok nmX8 rfl rfl (by decide) in_X8 rfl rfl rfl hN wl_2_118 dX8_init_148 (?_ : Sd X 151 [(0, 18), (1, 0)] [] _)
      refine sd_iconst hC dX8_init_151 ⟨by decide, by decide⟩ (?_ : Sd X 152 [(0, 18), (1, 0)] [0] _)
      refine sd_istore_n (Γ' := [(0, 18), (1, 0)]) hC dX8_init_152 rfl (by rw [e2]; decide) (by decide) (?_ : Sd X 153 [(0, 18), (1, 0)] [] _)
      exact Sd.weak (by decide) (S_153)
    · refine sd_aload_n hC 18 dX8_init_86 rfl (by decide) (by decide) (?_ : Sd X 87 [(0, 18), (1, 0)] [18] _)
      refine sd_get hC (ci := 8) (j := 6) (C := RX8) (T := TX8) (N := 18) rfl rfl (by decide) in_X8 wl_2_114 dX8_init_87 (?_ : Sd X 90 [(0, 18), (1, 0)] [117] _)
      refine sd_iload_n hC dX8_init_90 rfl (by decide) (?_ : Sd X 91 [(0, 18), (1, 0)] [0, 117] _)
      refine sd_new hC (ci := 7) (C := RX7) (T := TX7) (N := 7) tyX7 tyX7_ok (by decide) rfl in_X7 wl_1_225 wl_1_227 wl_1_6 (by rw [e3]) (by rw [e3]) dX8_init_91 (?_ : Sd X 94 [(0, 18), (1, 0)] [17, 0, 117] _)
      refine sd_dup hC (by decide) dX8_init_94 (?_ : Sd X 95 [(0, 18), (1, 0)] [17, 17, 0, 117] _)
      refine sd_invi (τ := [17, 0, 117]) (τr := []) (ci := 7) hC WG (M_X7_init _) rfl rfl rfl rfl (by rw [e3]) (by rw [e3]) rfl wl_1_228 wl_1_229 wl_1_6 wl_1_230 hd_X7_init (by rw [e3]; decide) (by decide) dX8_init_95 (?_ : Sd X 98 [(0, 18), (1, 0)] [17, 0, 117] _)
      refine sd_aastore hC (ci := 7) (q := (RX7, TX7, 7)) (List.mem_of_getElem? (i := 6) rfl) rfl dX8_init_98 (?_ : Sd X 99 [(0, 18), (1, 0)] [] _)
      refine sd_iinc (Γ' := [(0, 18), (1, 0)]) hC dX8_init_99 (by decide) (by rw [e2]; decide) (by decide) (?_ : Sd X 102 [(0, 18), (1, 0)] [] _)
      refine sd_goto (tgt := 80) hC dX8_init_102 rfl (?_ : Sd X 80 [(0, 18), (1, 0)] [] _)
      exact Sd.weak (by decide) h80
  refine (?_ : Sd X 0 [(0, 18)] [] (E_X8_init Q))
  unfold E_X8_init
  refine sd_aload_n hC 18 dX8_init_0 rfl (by decide) (by decide) (?_ : Sd X 1 [(0, 18)] [18] _)
  refine sd_objInit hC (by decide) wl_1_28 wl_1_29 wl_1_30 (by rw [e3]; decide) (by decide) dX8_init_1 (?_ : Sd X 4 [(0, 18)] [] _)
  refine sd_aload_n hC 18 dX8_init_4 rfl (by decide) (by decide) (?_ : Sd X 5 [(0, 18)] [18] _)
  refine sd_sipush hC dX8_init_5 (by decide) (?_ : Sd X 8 [(0, 18)] [0, 18] _)
  refine sd_newa hC (e := 0) (List.mem_of_getElem? (i := 0) rfl) (fun C z => by cases z) rfl (by decide) wl_1_76 (by rw [e3]) (by rw [e3]) dX8_init_8 (?_ : Sd X 10 [(0, 18)] [100, 18] _)
  refine sd_putF hC (ci := 8) (j := 0) (C := RX8) (T := TX8) (N := 18) tyX8 tyX8_ok nmX8 rfl rfl (by decide) in_X8 rfl rfl rfl hN wl_2_108 dX8_init_10 (?_ : Sd X 13 [(0, 18)] [] _)
  refine sd_aload_n hC 18 dX8_init_13 rfl (by decide) (by decide) (?_ : Sd X 14 [(0, 18)] [18] _)
  refine sd_new hC (ci := 1) (C := RX1) (T := TX1) (N := 12) tyX1 tyX1_ok (by decide) rfl in_X1 wl_1_31 wl_1_32 wl_1_2 (by rw [e3]) (by rw [e3]) dX8_init_14 (?_ : Sd X 17 [(0, 18)] [11, 18] _)
  refine sd_dup hC (by decide) dX8_init_17 (?_ : Sd X 18 [(0, 18)] [11, 11, 18] _)
  refine sd_invi (τ := [11, 18]) (τr := []) (ci := 1) hC WG (M_X1_init _) rfl rfl rfl rfl (by rw [e3]) (by rw [e3]) rfl wl_1_33 wl_1_34 wl_1_2 wl_1_35 hd_X1_init (by rw [e3]; decide) (by decide) dX8_init_18 (?_ : Sd X 21 [(0, 18)] [11, 18] _)
  refine sd_put hC (ci := 8) (j := 2) (C := RX8) (T := TX8) (N := 18) tyX8 tyX8_ok nmX8 rfl rfl (by decide) in_X8 rfl rfl wl_2_110 dX8_init_21 (?_ : Sd X 24 [(0, 18)] [] _)
  refine sd_aload_n hC 18 dX8_init_24 rfl (by decide) (by decide) (?_ : Sd X 25 [(0, 18)] [18] _)
  refine sd_new hC (ci := 1) (C := RX1) (T := TX1) (N := 12) tyX1 tyX1_ok (by decide) rfl in_X1 wl_1_31 wl_1_32 wl_1_2 (by rw [e3]) (by rw [e3]) dX8_init_25 (?_ : Sd X 28 [(0, 18)] [11, 18] _)
  refine sd_dup hC (by decide) dX8_init_28 (?_ : Sd X 29 [(0, 18)] [11, 11, 18] _)
  refine sd_invi (τ := [11, 18]) (τr := []) (ci := 1) hC WG (M_X1_init _) rfl rfl rfl rfl (by rw [e3]) (by rw [e3]) rfl wl_1_33 wl_1_34 wl_1_2 wl_1_35 hd_X1_init (by rw [e3]; decide) (by decide) dX8_init_29 (?_ : Sd X 32 [(0, 18)] [11, 18] _)
  refine sd_put hC (ci := 8) (j := 3) (C := RX8) (T := TX8) (N := 18) tyX8 tyX8_ok nmX8 rfl rfl (by decide) in_X8 rfl rfl wl_2_111 dX8_init_32 (?_ : Sd X 35 [(0, 18)] [] _)
  refine sd_aload_n hC 18 dX8_init_35 rfl (by decide) (by decide) (?_ : Sd X 36 [(0, 18)] [18] _)
  refine sd_new hC (ci := 4) (C := RX4) (T := TX4) (N := 15) tyX4 tyX4_ok (by decide) rfl in_X4 wl_1_146 wl_1_147 wl_1_4 (by rw [e3]) (by rw [e3]) dX8_init_36 (?_ : Sd X 39 [(0, 18)] [14, 18] _)
  refine sd_dup hC (by decide) dX8_init_39 (?_ : Sd X 40 [(0, 18)] [14, 14, 18] _)
  refine sd_aload_n hC 18 dX8_init_40 rfl (by decide) (by decide) (?_ : Sd X 41 [(0, 18)] [18, 14, 14, 18] _)
  refine sd_get hC (ci := 8) (j := 0) (C := RX8) (T := TX8) (N := 18) rfl rfl (by decide) in_X8 wl_2_108 dX8_init_41 (?_ : Sd X 44 [(0, 18)] [100, 14, 14, 18] _)
  refine sd_aload_n hC 18 dX8_init_44 rfl (by decide) (by decide) (?_ : Sd X 45 [(0, 18)] [18, 100, 14, 14, 18] _)
  refine sd_get hC (ci := 8) (j := 3) (C := RX8) (T := TX8) (N := 18) rfl rfl (by decide) in_X8 wl_2_111 dX8_init_45 (?_ : Sd X 48 [(0, 18)] [11, 100, 14, 14, 18] _)
  refine sd_invi (τ := [14, 18]) (τr := [100, 11]) (ci := 4) hC WG (M_X4_init _) rfl rfl rfl rfl (by rw [e3]) (by rw [e3]) rfl wl_1_148 wl_1_149 wl_1_4 wl_1_150 hd_X4_init (by rw [e3]; decide) (by decide) dX8_init_48 (?_ : Sd X 51 [(0, 18)] [14, 18] _)
  refine sd_putF hC (ci := 8) (j := 4) (C := RX8) (T := TX8) (N := 18) tyX8 tyX8_ok nmX8 rfl rfl (by decide) in_X8 rfl rfl rfl hN wl_2_112 dX8_init_51 (?_ : Sd X 54 [(0, 18)] [] _)
  refine sd_aload_n hC 18 dX8_init_54 rfl (by decide) (by decide) (?_ : Sd X 55 [(0, 18)] [18] _)
  refine sd_new hC (ci := 3) (C := RX3) (T := TX3) (N := 6) tyX3 tyX3_ok (by decide) rfl in_X3 wl_1_200 wl_1_201 wl_1_5 (by rw [e3]) (by rw [e3]) dX8_init_55 (?_ : Sd X 58 [(0, 18)] [13, 18] _)
  refine sd_dup hC (by decide) dX8_init_58 (?_ : Sd X 59 [(0, 18)] [13, 13, 18] _)
  refine sd_aload_n hC 18 dX8_init_59 rfl (by decide) (by decide) (?_ : Sd X 60 [(0, 18)] [18, 13, 13, 18] _)
  refine sd_get hC (ci := 8) (j := 2) (C := RX8) (T := TX8) (N := 18) rfl rfl (by decide) in_X8 wl_2_110 dX8_init_60 (?_ : Sd X 63 [(0, 18)] [11, 13, 13, 18] _)
  refine sd_invi (τ := [13, 18]) (τr := [11]) (ci := 3) hC WG (M_X3_init _) rfl rfl rfl rfl (by rw [e3]) (by rw [e3]) rfl wl_1_202 wl_1_203 wl_1_5 wl_1_204 hd_X3_init (by rw [e3]; decide) (by decide) dX8_init_63 (?_ : Sd X 66 [(0, 18)] [13, 18] _)
  refine sd_putF hC (ci := 8) (j := 5) (C := RX8) (T := TX8) (N := 18) tyX8 tyX8_ok nmX8 rfl rfl (by decide) in_X8 rfl rfl rfl hN wl_2_113 dX8_init_66 (?_ : Sd X 69 [(0, 18)] [] _)
  refine sd_aload_n hC 18 dX8_init_69 rfl (by decide) (by decide) (?_ : Sd X 70 [(0, 18)] [18] _)
  refine sd_bipush hC dX8_init_70 (by decide) (?_ : Sd X 72 [(0, 18)] [0, 18] _)
  refine sd_anew hC (C := RX7) (e := 17) (List.mem_of_getElem? (i := 6) rfl) rfl (by decide) wl_1_225 (by rw [e3]) (by rw [e3]) dX8_init_72 (?_ : Sd X 75 [(0, 18)] [117, 18] _)
  refine sd_putF hC (ci := 8) (j := 6) (C := RX8) (T := TX8) (N := 18) tyX8 tyX8_ok nmX8 rfl rfl (by decide) in_X8 rfl rfl rfl hN wl_2_114 dX8_init_75 (?_ : Sd X 78 [(0, 18)] [] _)
  refine sd_iconst hC dX8_init_78 ⟨by decide, by decide⟩ (?_ : Sd X 79 [(0, 18)] [0] _)
  refine sd_istore_n (Γ' := [(0, 18), (1, 0)]) hC dX8_init_79 rfl (by rw [e2]; decide) (by decide) (?_ : Sd X 80 [(0, 18), (1, 0)] [] _)
  exact Sd.weak (by decide) (S_80)
theorem wl_2_39 : Cond.fieldLink RX8 225 "NarrowRings$Day" "loads" "I" ∈ WALL := tb2 (List.mem_of_getElem? (i := 39) rfl) rfl
theorem wl_2_41 : Cond.fieldLink RX8 226 "NarrowRings$Day" "row" "[[I" ∈ WALL := tb2 (List.mem_of_getElem? (i := 41) rfl) rfl
theorem hd_X8_load : yX8_load.cls ≠ "java/lang/invoke/MethodHandle" ∧ yX8_load.cls ≠ "java/lang/invoke/VarHandle" ∧ (parseMethodDescriptor yX8_load.desc).map (fun d => d.parameters.length) = some 2 := by decide +kernel
set_option maxRecDepth 100000 in
set_option maxHeartbeats 4000000 in
theorem M_X8_load (l : Launch) : Mt l yX8_load (Cond.code yX8_load cX8_load 3 (some .int) :: WALL) { frames := 1, cells := 0, slots := 0, locals := 21 } [18, 0, 0] (some 0) T_X8_load := by
  refine Mt.mk (B := E_X8_load) (by decide +kernel) (by decide) (fun _ _ _ hh => hh) ?_
  intro X Q e1 e2 e3 hC hN hT
  subst e1
  have hC : CF X cX8_load RX8 WALL := hC
  have S_23 : Sd X 23 [(0, 18), (1, 0), (2, 0)] [] (B_X8_load_23 Q) := by
    unfold B_X8_load_23
    refine sd_aload_n hC 18 dX8_load_23 rfl (by decide) (by decide) (?_ : Sd X 24 [(0, 18), (1, 0), (2, 0)] [18] _)
    refine sd_iconst hC dX8_load_24 ⟨by decide, by decide⟩ (?_ : Sd X 25 [(0, 18), (1, 0), (2, 0)] [0, 18] _)
    refine sd_inv0 (τ := []) (τr := [0]) (ci := 8) (q := (RX8, TX8, 18)) hC WG (M_X8_refuse _) rfl rfl rfl rfl  rfl rfl wl_2_175 wl_2_177 wp_1 wl_1_1 wl_2_178 hd_X8_refuse (by rw [e3]; decide) (by decide) dX8_load_25 (?_ : Sd X 28 [(0, 18), (1, 0), (2, 0)] [0] _)
    exact sd_ireturn hC hT dX8_load_28
  refine (?_ : Sd X 0 [(0, 18), (1, 0), (2, 0)] [] (E_X8_load Q))
  unfold E_X8_load
  refine sd_iload_n hC dX8_load_0 rfl (by decide) (?_ : Sd X 1 [(0, 18), (1, 0), (2, 0)] [0] _)
  refine sd_aload_n hC 18 dX8_load_1 rfl (by decide) (by decide) (?_ : Sd X 2 [(0, 18), (1, 0), (2, 0)] [18, 0] _)
  refine sd_get hC (ci := 8) (j := 9) (C := RX8) (T := TX8) (N := 18) rfl rfl (by decide) in_X8 wl_2_117 dX8_load_2 (?_ : Sd X 5 [(0, 18), (1, 0), (2, 0)] [12, 0] _)
  refine sd_get hC (ci := 2) (j := 1) (C := RX2) (T := TX2) (N := 10) rfl rfl (by decide) in_X2 wl_2_39 dX8_load_5 (?_ : Sd X 8 [(0, 18), (1, 0), (2, 0)] [0, 0] _)
  refine sd_invs (τ := []) (τs := [0, 0]) hC false "" WG (M_X8_within _) rfl rfl rfl rfl wl_4_6 wl_4_7 wl_1_1 wl_4_8 hd_X8_within (by rw [e3]; decide) (by decide) dX8_load_8 (?_ : Sd X 11 [(0, 18), (1, 0), (2, 0)] [0] _)
  refine sd_if_eq (tgt := 23) hC dX8_load_11 rfl (?_ : Sd X 23 [(0, 18), (1, 0), (2, 0)] [] _) (?_ : Sd X 14 [(0, 18), (1, 0), (2, 0)] [] _)
  · exact Sd.weak (by decide) (S_23)
  · refine sd_iload_n hC dX8_load_14 rfl (by decide) (?_ : Sd X 15 [(0, 18), (1, 0), (2, 0)] [0] _)
    refine sd_bipush hC dX8_load_15 (by decide) (?_ : Sd X 17 [(0, 18), (1, 0), (2, 0)] [0, 0] _)
    refine sd_invs (τ := []) (τs := [0, 0]) hC false "" WG (M_X8_within _) rfl rfl rfl rfl wl_4_6 wl_4_7 wl_1_1 wl_4_8 hd_X8_within (by rw [e3]; decide) (by decide) dX8_load_17 (?_ : Sd X 20 [(0, 18), (1, 0), (2, 0)] [0] _)
    refine sd_if_ne (tgt := 29) hC dX8_load_20 rfl (?_ : Sd X 29 [(0, 18), (1, 0), (2, 0)] [] _) (?_ : Sd X 23 [(0, 18), (1, 0), (2, 0)] [] _)
    · refine sd_aload_n hC 18 dX8_load_29 rfl (by decide) (by decide) (?_ : Sd X 30 [(0, 18), (1, 0), (2, 0)] [18] _)
      refine sd_aload_n hC 18 dX8_load_30 rfl (by decide) (by decide) (?_ : Sd X 31 [(0, 18), (1, 0), (2, 0)] [18, 18] _)
      refine sd_get hC (ci := 8) (j := 9) (C := RX8) (T := TX8) (N := 18) rfl rfl (by decide) in_X8 wl_2_117 dX8_load_31 (?_ : Sd X 34 [(0, 18), (1, 0), (2, 0)] [12, 18] _)
      refine sd_get hC (ci := 2) (j := 2) (C := RX2) (T := TX2) (N := 10) rfl rfl (by decide) in_X2 wl_2_41 dX8_load_34 (?_ : Sd X 37 [(0, 18), (1, 0), (2, 0)] [200, 18] _)
      refine sd_iload_n hC dX8_load_37 rfl (by decide) (?_ : Sd X 38 [(0, 18), (1, 0), (2, 0)] [0, 200, 18] _)
      refine sd_aaload (e := 100) hC (List.mem_of_getElem? (i := 7) rfl) rfl rfl dX8_load_38 (?_ : Sd X 39 [(0, 18), (1, 0), (2, 0)] [100, 18] _)
      refine sd_iload_n hC dX8_load_39 rfl (by decide) (?_ : Sd X 40 [(0, 18), (1, 0), (2, 0)] [0, 100, 18] _)
      refine sd_iaload hC dX8_load_40 (?_ : Sd X 41 [(0, 18), (1, 0), (2, 0)] [0, 18] _)
      refine sd_inv0 (τ := []) (τr := [0]) (ci := 8) (q := (RX8, TX8, 18)) hC WG (M_X8_grant _) rfl rfl rfl rfl  rfl rfl wl_3_225 wl_3_227 wp_34 wl_1_1 wl_3_228 hd_X8_grant (by rw [e3]; decide) (by decide) dX8_load_41 (?_ : Sd X 44 [(0, 18), (1, 0), (2, 0)] [0] _)
      exact sd_ireturn hC hT dX8_load_44
    · exact Sd.weak (by decide) (S_23)
theorem hd_X8_loads : yX8_loads.cls ≠ "java/lang/invoke/MethodHandle" ∧ yX8_loads.cls ≠ "java/lang/invoke/VarHandle" ∧ (parseMethodDescriptor yX8_loads.desc).map (fun d => d.parameters.length) = some 0 := by decide +kernel
set_option maxRecDepth 100000 in
set_option maxHeartbeats 4000000 in
theorem M_X8_loads (l : Launch) : Mt l yX8_loads (Cond.code yX8_loads cX8_loads 1 (some .int) :: WALL) { frames := 1, cells := 0, slots := 0, locals := 21 } [18] (some 0) T_X8_loads := by
  refine Mt.mk (B := E_X8_loads) (by decide +kernel) (by decide) (fun _ _ _ hh => hh) ?_
  intro X Q e1 e2 e3 hC hN hT
  subst e1
  have hC : CF X cX8_loads RX8 WALL := hC
  refine (?_ : Sd X 0 [(0, 18)] [] (E_X8_loads Q))
  unfold E_X8_loads
  refine sd_aload_n hC 18 dX8_loads_0 rfl (by decide) (by decide) (?_ : Sd X 1 [(0, 18)] [18] _)
  refine sd_inv0 (τ := []) (τr := []) (ci := 8) (q := (RX8, TX8, 18)) hC WG (M_X8_isCity _) rfl rfl rfl rfl  rfl rfl wl_4_99 wl_4_101 wp_43 wl_1_1 wl_4_102 hd_X8_isCity (by rw [e3]; decide) (by decide) dX8_loads_1 (?_ : Sd X 4 [(0, 18)] [0] _)
  refine sd_if_ne (tgt := 13) hC dX8_loads_4 rfl (?_ : Sd X 13 [(0, 18)] [] _) (?_ : Sd X 7 [(0, 18)] [] _)
  · refine sd_aload_n hC 18 dX8_loads_13 rfl (by decide) (by decide) (?_ : Sd X 14 [(0, 18)] [18] _)
    refine sd_aload_n hC 18 dX8_loads_14 rfl (by decide) (by decide) (?_ : Sd X 15 [(0, 18)] [18, 18] _)
    refine sd_get hC (ci := 8) (j := 9) (C := RX8) (T := TX8) (N := 18) rfl rfl (by decide) in_X8 wl_2_117 dX8_loads_15 (?_ : Sd X 18 [(0, 18)] [12, 18] _)
    refine sd_get hC (ci := 2) (j := 1) (C := RX2) (T := TX2) (N := 10) rfl rfl (by decide) in_X2 wl_2_39 dX8_loads_18 (?_ : Sd X 21 [(0, 18)] [0, 18] _)
    refine sd_inv0 (τ := []) (τr := [0]) (ci := 8) (q := (RX8, TX8, 18)) hC WG (M_X8_grant _) rfl rfl rfl rfl  rfl rfl wl_3_225 wl_3_227 wp_34 wl_1_1 wl_3_228 hd_X8_grant (by rw [e3]; decide) (by decide) dX8_loads_21 (?_ : Sd X 24 [(0, 18)] [0] _)
    exact sd_ireturn hC hT dX8_loads_24
  · refine sd_aload_n hC 18 dX8_loads_7 rfl (by decide) (by decide) (?_ : Sd X 8 [(0, 18)] [18] _)
    refine sd_iconst hC dX8_loads_8 ⟨by decide, by decide⟩ (?_ : Sd X 9 [(0, 18)] [0, 18] _)
    refine sd_inv0 (τ := []) (τr := [0]) (ci := 8) (q := (RX8, TX8, 18)) hC WG (M_X8_refuse _) rfl rfl rfl rfl  rfl rfl wl_2_175 wl_2_177 wp_1 wl_1_1 wl_2_178 hd_X8_refuse (by rw [e3]; decide) (by decide) dX8_loads_9 (?_ : Sd X 12 [(0, 18)] [0] _)
    exact sd_ireturn hC hT dX8_loads_12
theorem wl_2_6 : Cond.fieldLink RX8 194 "NarrowRings$Way" "loads" "I" ∈ WALL := tb2 (List.mem_of_getElem? (i := 6) rfl) rfl
theorem hd_X8_loadsOf : yX8_loadsOf.cls ≠ "java/lang/invoke/MethodHandle" ∧ yX8_loadsOf.cls ≠ "java/lang/invoke/VarHandle" ∧ (parseMethodDescriptor yX8_loadsOf.desc).map (fun d => d.parameters.length) = some 1 := by decide +kernel
set_option maxRecDepth 100000 in
set_option maxHeartbeats 4000000 in
theorem M_X8_loadsOf (l : Launch) : Mt l yX8_loadsOf (Cond.code yX8_loadsOf cX8_loadsOf 2 (some .int) :: WALL) { frames := 2, cells := 0, slots := 0, locals := 42 } [18, 0] (some 0) T_X8_loadsOf := by
  refine Mt.mk (B := E_X8_loadsOf) (by decide +kernel) (by decide) (fun _ _ _ hh => hh) ?_
  intro X Q e1 e2 e3 hC hN hT
  subst e1
  have hC : CF X cX8_loadsOf RX8 WALL := hC
  refine (?_ : Sd X 0 [(0, 18), (1, 0)] [] (E_X8_loadsOf Q))
  unfold E_X8_loadsOf
  refine sd_aload_n hC 18 dX8_loadsOf_0 rfl (by decide) (by decide) (?_ : Sd X 1 [(0, 18), (1, 0)] [18] _)
  refine sd_iload_n hC dX8_loadsOf_1 rfl (by decide) (?_ : Sd X 2 [(0, 18), (1, 0)] [0, 18] _)
  refine sd_inv0 (τ := []) (τr := [0]) (ci := 8) (q := (RX8, TX8, 18)) hC WG (M_X8_isOrder _) rfl rfl rfl rfl  rfl rfl wl_4_79 wl_4_81 wp_42 wl_1_1 wl_4_82 hd_X8_isOrder (by rw [e3]; decide) (by decide) dX8_loadsOf_2 (?_ : Sd X 5 [(0, 18), (1, 0)] [0] _)
  refine sd_if_ne (tgt := 14) hC dX8_loadsOf_5 rfl (?_ : Sd X 14 [(0, 18), (1, 0)] [] _) (?_ : Sd X 8 [(0, 18), (1, 0)] [] _)
  · refine sd_aload_n hC 18 dX8_loadsOf_14 rfl (by decide) (by decide) (?_ : Sd X 15 [(0, 18), (1, 0)] [18] _)
    refine sd_get hC (ci := 8) (j := 6) (C := RX8) (T := TX8) (N := 18) rfl rfl (by decide) in_X8 wl_2_114 dX8_loadsOf_15 (?_ : Sd X 18 [(0, 18), (1, 0)] [117] _)
    refine sd_iload_n hC dX8_loadsOf_18 rfl (by decide) (?_ : Sd X 19 [(0, 18), (1, 0)] [0, 117] _)
    refine sd_aaload (e := 17) hC (List.mem_of_getElem? (i := 6) rfl) rfl rfl dX8_loadsOf_19 (?_ : Sd X 20 [(0, 18), (1, 0)] [17] _)
    refine sd_get hC (ci := 7) (j := 0) (C := RX7) (T := TX7) (N := 7) rfl rfl (by decide) in_X7 wl_1_235 dX8_loadsOf_20 (?_ : Sd X 23 [(0, 18), (1, 0)] [0] _)
    refine sd_if_ne (tgt := 33) hC dX8_loadsOf_23 rfl (?_ : Sd X 33 [(0, 18), (1, 0)] [] _) (?_ : Sd X 26 [(0, 18), (1, 0)] [] _)
    · refine sd_aload_n hC 18 dX8_loadsOf_33 rfl (by decide) (by decide) (?_ : Sd X 34 [(0, 18), (1, 0)] [18] _)
      refine sd_aload_n hC 18 dX8_loadsOf_34 rfl (by decide) (by decide) (?_ : Sd X 35 [(0, 18), (1, 0)] [18, 18] _)
      refine sd_get hC (ci := 8) (j := 6) (C := RX8) (T := TX8) (N := 18) rfl rfl (by decide) in_X8 wl_2_114 dX8_loadsOf_35 (?_ : Sd X 38 [(0, 18), (1, 0)] [117, 18] _)
      refine sd_iload_n hC dX8_loadsOf_38 rfl (by decide) (?_ : Sd X 39 [(0, 18), (1, 0)] [0, 117, 18] _)
      refine sd_aaload (e := 17) hC (List.mem_of_getElem? (i := 6) rfl) rfl rfl dX8_loadsOf_39 (?_ : Sd X 40 [(0, 18), (1, 0)] [17, 18] _)
      refine sd_get hC (ci := 7) (j := 4) (C := RX7) (T := TX7) (N := 7) rfl rfl (by decide) in_X7 wl_2_6 dX8_loadsOf_40 (?_ : Sd X 43 [(0, 18), (1, 0)] [0, 18] _)
      refine sd_inv0 (τ := []) (τr := [0]) (ci := 8) (q := (RX8, TX8, 18)) hC WG (M_X8_grant _) rfl rfl rfl rfl  rfl rfl wl_3_225 wl_3_227 wp_34 wl_1_1 wl_3_228 hd_X8_grant (by rw [e3]; decide) (by decide) dX8_loadsOf_43 (?_ : Sd X 46 [(0, 18), (1, 0)] [0] _)
      exact sd_ireturn hC hT dX8_loadsOf_46
    · refine sd_aload_n hC 18 dX8_loadsOf_26 rfl (by decide) (by decide) (?_ : Sd X 27 [(0, 18), (1, 0)] [18] _)
      refine sd_bipush hC dX8_loadsOf_27 (by decide) (?_ : Sd X 29 [(0, 18), (1, 0)] [0, 18] _)
      refine sd_inv0 (τ := []) (τr := [0]) (ci := 8) (q := (RX8, TX8, 18)) hC WG (M_X8_refuse _) rfl rfl rfl rfl  rfl rfl wl_2_175 wl_2_177 wp_1 wl_1_1 wl_2_178 hd_X8_refuse (by rw [e3]; decide) (by decide) dX8_loadsOf_29 (?_ : Sd X 32 [(0, 18), (1, 0)] [0] _)
      exact sd_ireturn hC hT dX8_loadsOf_32
  · refine sd_aload_n hC 18 dX8_loadsOf_8 rfl (by decide) (by decide) (?_ : Sd X 9 [(0, 18), (1, 0)] [18] _)
    refine sd_iconst hC dX8_loadsOf_9 ⟨by decide, by decide⟩ (?_ : Sd X 10 [(0, 18), (1, 0)] [0, 18] _)
    refine sd_inv0 (τ := []) (τr := [0]) (ci := 8) (q := (RX8, TX8, 18)) hC WG (M_X8_refuse _) rfl rfl rfl rfl  rfl rfl wl_2_175 wl_2_177 wp_1 wl_1_1 wl_2_178 hd_X8_refuse (by rw [e3]; decide) (by decide) dX8_loadsOf_10 (?_ : Sd X 13 [(0, 18), (1, 0)] [0] _)
    exact sd_ireturn hC hT dX8_loadsOf_13
theorem hd_X8_mark : yX8_mark.cls ≠ "java/lang/invoke/MethodHandle" ∧ yX8_mark.cls ≠ "java/lang/invoke/VarHandle" ∧ (parseMethodDescriptor yX8_mark.desc).map (fun d => d.parameters.length) = some 0 := by decide +kernel
set_option maxRecDepth 100000 in
set_option maxHeartbeats 4000000 in
theorem M_X8_mark (l : Launch) : Mt l yX8_mark (Cond.code yX8_mark cX8_mark 1 (some .int) :: WALL) { frames := 2, cells := 0, slots := 0, locals := 48 } [18] (some 0) T_X8_mark := by
  refine Mt.mk (B := E_X8_mark) (by decide +kernel) (by decide) (fun _ _ _ hh => hh) ?_
  intro X Q e1 e2 e3 hC hN hT
  subst e1
  have hC : CF X cX8_mark RX8 WALL := hC
  refine (?_ : Sd X 0 [(0, 18)] [] (E_X8_mark Q))
  unfold E_X8_mark
  refine sd_aload_n hC 18 dX8_mark_0 rfl (by decide) (by decide) (?_ : Sd X 1 [(0, 18)] [18] _)
  refine sd_inv0 (τ := []) (τr := []) (ci := 8) (q := (RX8, TX8, 18)) hC WG (M_X8_isCity _) rfl rfl rfl rfl  rfl rfl wl_4_99 wl_4_101 wp_43 wl_1_1 wl_4_102 hd_X8_isCity (by rw [e3]; decide) (by decide) dX8_mark_1 (?_ : Sd X 4 [(0, 18)] [0] _)
  refine sd_if_ne (tgt := 13) hC dX8_mark_4 rfl (?_ : Sd X 13 [(0, 18)] [] _) (?_ : Sd X 7 [(0, 18)] [] _)
  · refine sd_aload_n hC 18 dX8_mark_13 rfl (by decide) (by decide) (?_ : Sd X 14 [(0, 18)] [18] _)
    refine sd_get hC (ci := 8) (j := 11) (C := RX8) (T := TX8) (N := 18) rfl rfl (by decide) in_X8 wl_2_119 dX8_mark_14 (?_ : Sd X 17 [(0, 18)] [0] _)
    refine sd_iconst hC dX8_mark_17 ⟨by decide, by decide⟩ (?_ : Sd X 18 [(0, 18)] [0, 0] _)
    refine sd_icmp_lt (tgt := 27) hC dX8_mark_18 rfl (?_ : Sd X 27 [(0, 18)] [] _) (?_ : Sd X 21 [(0, 18)] [] _)
    · refine sd_aload_n hC 18 dX8_mark_27 rfl (by decide) (by decide) (?_ : Sd X 28 [(0, 18)] [18] _)
      refine sd_get hC (ci := 8) (j := 10) (C := RX8) (T := TX8) (N := 18) rfl rfl (by decide) in_X8 wl_2_118 dX8_mark_28 (?_ : Sd X 31 [(0, 18)] [112] _)
      refine sd_aload_n hC 18 dX8_mark_31 rfl (by decide) (by decide) (?_ : Sd X 32 [(0, 18)] [18, 112] _)
      refine sd_get hC (ci := 8) (j := 11) (C := RX8) (T := TX8) (N := 18) rfl rfl (by decide) in_X8 wl_2_119 dX8_mark_32 (?_ : Sd X 35 [(0, 18)] [0, 112] _)
      refine sd_aaload (e := 12) hC (List.mem_of_getElem? (i := 4) rfl) rfl rfl dX8_mark_35 (?_ : Sd X 36 [(0, 18)] [12] _)
      refine sd_aload_n hC 18 dX8_mark_36 rfl (by decide) (by decide) (?_ : Sd X 37 [(0, 18)] [18, 12] _)
      refine sd_get hC (ci := 8) (j := 9) (C := RX8) (T := TX8) (N := 18) rfl rfl (by decide) in_X8 wl_2_117 dX8_mark_37 (?_ : Sd X 40 [(0, 18)] [12, 12] _)
      refine sd_inv0v (τ := []) (τr := [12]) (ci := 2) (q := (RX2, TX2, 10)) hC WG (M_X2_copy _) rfl rfl rfl rfl  rfl rfl wl_4_211 wl_4_212 wl_4_213 wl_1_7 wl_4_214 hd_X2_copy (by rw [e3]; decide) (by decide) dX8_mark_40 (?_ : Sd X 43 [(0, 18)] [] _)
      refine sd_aload_n hC 18 dX8_mark_43 rfl (by decide) (by decide) (?_ : Sd X 44 [(0, 18)] [18] _)
      refine sd_dup hC (by decide) dX8_mark_44 (?_ : Sd X 45 [(0, 18)] [18, 18] _)
      refine sd_get hC (ci := 8) (j := 11) (C := RX8) (T := TX8) (N := 18) rfl rfl (by decide) in_X8 wl_2_119 dX8_mark_45 (?_ : Sd X 48 [(0, 18)] [0, 18] _)
      refine sd_iconst hC dX8_mark_48 ⟨by decide, by decide⟩ (?_ : Sd X 49 [(0, 18)] [0, 0, 18] _)
      refine sd_iadd hC dX8_mark_49 (?_ : Sd X 50 [(0, 18)] [0, 18] _)
      refine sd_put hC (ci := 8) (j := 11) (C := RX8) (T := TX8) (N := 18) tyX8 tyX8_ok nmX8 rfl rfl (by decide) in_X8 rfl rfl wl_2_119 dX8_mark_50 (?_ : Sd X 53 [(0, 18)] [] _)
      refine sd_aload_n hC 18 dX8_mark_53 rfl (by decide) (by decide) (?_ : Sd X 54 [(0, 18)] [18] _)
      refine sd_aload_n hC 18 dX8_mark_54 rfl (by decide) (by decide) (?_ : Sd X 55 [(0, 18)] [18, 18] _)
      refine sd_get hC (ci := 8) (j := 11) (C := RX8) (T := TX8) (N := 18) rfl rfl (by decide) in_X8 wl_2_119 dX8_mark_55 (?_ : Sd X 58 [(0, 18)] [0, 18] _)
      refine sd_iconst hC dX8_mark_58 ⟨by decide, by decide⟩ (?_ : Sd X 59 [(0, 18)] [0, 0, 18] _)
      refine sd_isub hC dX8_mark_59 (?_ : Sd X 60 [(0, 18)] [0, 18] _)
      refine sd_inv0 (τ := []) (τr := [0]) (ci := 8) (q := (RX8, TX8, 18)) hC WG (M_X8_grant _) rfl rfl rfl rfl  rfl rfl wl_3_225 wl_3_227 wp_34 wl_1_1 wl_3_228 hd_X8_grant (by rw [e3]; decide) (by decide) dX8_mark_60 (?_ : Sd X 63 [(0, 18)] [0] _)
      exact sd_ireturn hC hT dX8_mark_63
    · refine sd_aload_n hC 18 dX8_mark_21 rfl (by decide) (by decide) (?_ : Sd X 22 [(0, 18)] [18] _)
      refine sd_iconst hC dX8_mark_22 ⟨by decide, by decide⟩ (?_ : Sd X 23 [(0, 18)] [0, 18] _)
      refine sd_inv0 (τ := []) (τr := [0]) (ci := 8) (q := (RX8, TX8, 18)) hC WG (M_X8_refuse _) rfl rfl rfl rfl  rfl rfl wl_2_175 wl_2_177 wp_1 wl_1_1 wl_2_178 hd_X8_refuse (by rw [e3]; decide) (by decide) dX8_mark_23 (?_ : Sd X 26 [(0, 18)] [0] _)
      exact sd_ireturn hC hT dX8_mark_26
  · refine sd_aload_n hC 18 dX8_mark_7 rfl (by decide) (by decide) (?_ : Sd X 8 [(0, 18)] [18] _)
    refine sd_iconst hC dX8_mark_8 ⟨by decide, by decide⟩ (?_ : Sd X 9 [(0, 18)] [0, 18] _)
    refine sd_inv0 (τ := []) (τr := [0]) (ci := 8) (q := (RX8, TX8, 18)) hC WG (M_X8_refuse _) rfl rfl rfl rfl  rfl rfl wl_2_175 wl_2_177 wp_1 wl_1_1 wl_2_178 hd_X8_refuse (by rw [e3]; decide) (by decide) dX8_mark_9 (?_ : Sd X 12 [(0, 18)] [0] _)
    exact sd_ireturn hC hT dX8_mark_12
theorem wl_2_37 : Cond.fieldLink RX8 210 "NarrowRings$Day" "hour" "I" ∈ WALL := tb2 (List.mem_of_getElem? (i := 37) rfl) rfl
theorem wl_4_111 : Cond.methodLink RX8 213 yX2_goOn ∈ WALL := tb4 (List.mem_of_getElem? (i := 111) rfl) rfl
theorem wl_4_112 : Cond.instanceMethod yX2_goOn ∈ WALL := tb4 (List.mem_of_getElem? (i := 112) rfl) rfl
theorem wl_4_113 : Cond.selects RX2 yX2_goOn yX2_goOn ∈ WALL := tb4 (List.mem_of_getElem? (i := 113) rfl) rfl
theorem wl_4_114 : Cond.code yX2_goOn cX2_goOn 2 none ∈ WALL := tb4 (List.mem_of_getElem? (i := 114) rfl) rfl
theorem hd_X8_pass : yX8_pass.cls ≠ "java/lang/invoke/MethodHandle" ∧ yX8_pass.cls ≠ "java/lang/invoke/VarHandle" ∧ (parseMethodDescriptor yX8_pass.desc).map (fun d => d.parameters.length) = some 1 := by decide +kernel
set_option maxRecDepth 100000 in
set_option maxHeartbeats 4000000 in
theorem M_X8_pass (l : Launch) : Mt l yX8_pass (Cond.code yX8_pass cX8_pass 3 (some .int) :: WALL) { frames := 5, cells := 0, slots := 0, locals := 111 } [18, 0] (some 0) T_X8_pass := by
  refine Mt.mk (B := E_X8_pass) (by decide +kernel) (by decide) (fun _ _ _ hh => hh) ?_
  intro X Q e1 e2 e3 hC hN hT
  subst e1
  have hC : CF X cX8_pass RX8 WALL := hC
  have S_24 : Sd X 24 [(0, 18), (1, 0)] [] (B_X8_pass_24 Q) := by
    unfold B_X8_pass_24
    refine sd_aload_n hC 18 dX8_pass_24 rfl (by decide) (by decide) (?_ : Sd X 25 [(0, 18), (1, 0)] [18] _)
    refine sd_iconst hC dX8_pass_25 ⟨by decide, by decide⟩ (?_ : Sd X 26 [(0, 18), (1, 0)] [0, 18] _)
    refine sd_inv0 (τ := []) (τr := [0]) (ci := 8) (q := (RX8, TX8, 18)) hC WG (M_X8_refuse _) rfl rfl rfl rfl  rfl rfl wl_2_175 wl_2_177 wp_1 wl_1_1 wl_2_178 hd_X8_refuse (by rw [e3]; decide) (by decide) dX8_pass_26 (?_ : Sd X 29 [(0, 18), (1, 0)] [0] _)
    exact sd_ireturn hC hT dX8_pass_29
  have S_52 : Sd X 52 [(0, 18), (1, 0), (2, 0)] [] (L_X8_pass_52 Q) := by
    unfold L_X8_pass_52
    refine Sd.loop (fun k52 h52 => ?_)
    refine sd_iload_n hC dX8_pass_52 rfl (by decide) (?_ : Sd X 53 [(0, 18), (1, 0), (2, 0)] [0] _)
    refine sd_iload_n hC dX8_pass_53 rfl (by decide) (?_ : Sd X 54 [(0, 18), (1, 0), (2, 0)] [0, 0] _)
    refine sd_icmp_ge (tgt := 70) hC dX8_pass_54 rfl (?_ : Sd X 70 [(0, 18), (1, 0), (2, 0)] [] _) (?_ : Sd X 57 [(0, 18), (1, 0), (2, 0)] [] _)
    · refine sd_aload_n hC 18 dX8_pass_70 rfl (by decide) (by decide) (?_ : Sd X 71 [(0, 18), (1, 0), (2, 0)] [18] _)
      refine sd_aload_n hC 18 dX8_pass_71 rfl (by decide) (by decide) (?_ : Sd X 72 [(0, 18), (1, 0), (2, 0)] [18, 18] _)
      refine sd_get hC (ci := 8) (j := 9) (C := RX8) (T := TX8) (N := 18) rfl rfl (by decide) in_X8 wl_2_117 dX8_pass_72 (?_ : Sd X 75 [(0, 18), (1, 0), (2, 0)] [12, 18] _)
      refine sd_get hC (ci := 2) (j := 0) (C := RX2) (T := TX2) (N := 10) rfl rfl (by decide) in_X2 wl_2_37 dX8_pass_75 (?_ : Sd X 78 [(0, 18), (1, 0), (2, 0)] [0, 18] _)
      refine sd_inv0 (τ := []) (τr := [0]) (ci := 8) (q := (RX8, TX8, 18)) hC WG (M_X8_grant _) rfl rfl rfl rfl  rfl rfl wl_3_225 wl_3_227 wp_34 wl_1_1 wl_3_228 hd_X8_grant (by rw [e3]; decide) (by decide) dX8_pass_78 (?_ : Sd X 81 [(0, 18), (1, 0), (2, 0)] [0] _)
      exact sd_ireturn hC hT dX8_pass_81
    · refine sd_aload_n hC 18 dX8_pass_57 rfl (by decide) (by decide) (?_ : Sd X 58 [(0, 18), (1, 0), (2, 0)] [18] _)
      refine sd_get hC (ci := 8) (j := 9) (C := RX8) (T := TX8) (N := 18) rfl rfl (by decide) in_X8 wl_2_117 dX8_pass_58 (?_ : Sd X 61 [(0, 18), (1, 0), (2, 0)] [12] _)
      refine sd_inv0v (τ := []) (τr := []) (ci := 2) (q := (RX2, TX2, 10)) hC WG (M_X2_goOn _) rfl rfl rfl rfl  rfl rfl wl_4_111 wl_4_112 wl_4_113 wl_1_7 wl_4_114 hd_X2_goOn (by rw [e3]; decide) (by decide) dX8_pass_61 (?_ : Sd X 64 [(0, 18), (1, 0), (2, 0)] [] _)
      refine sd_iinc (Γ' := [(0, 18), (1, 0), (2, 0)]) hC dX8_pass_64 (by decide) (by rw [e2]; decide) (by decide) (?_ : Sd X 67 [(0, 18), (1, 0), (2, 0)] [] _)
      refine sd_goto (tgt := 52) hC dX8_pass_67 rfl (?_ : Sd X 52 [(0, 18), (1, 0), (2, 0)] [] _)
      exact Sd.weak (by decide) h52
  refine (?_ : Sd X 0 [(0, 18), (1, 0)] [] (E_X8_pass Q))
  unfold E_X8_pass
  refine sd_aload_n hC 18 dX8_pass_0 rfl (by decide) (by decide) (?_ : Sd X 1 [(0, 18), (1, 0)] [18] _)
  refine sd_inv0 (τ := []) (τr := []) (ci := 8) (q := (RX8, TX8, 18)) hC WG (M_X8_isCity _) rfl rfl rfl rfl  rfl rfl wl_4_99 wl_4_101 wp_43 wl_1_1 wl_4_102 hd_X8_isCity (by rw [e3]; decide) (by decide) dX8_pass_1 (?_ : Sd X 4 [(0, 18), (1, 0)] [0] _)
  refine sd_if_ne (tgt := 13) hC dX8_pass_4 rfl (?_ : Sd X 13 [(0, 18), (1, 0)] [] _) (?_ : Sd X 7 [(0, 18), (1, 0)] [] _)
  · refine sd_iload_n hC dX8_pass_13 rfl (by decide) (?_ : Sd X 14 [(0, 18), (1, 0)] [0] _)
    refine sd_iconst hC dX8_pass_14 ⟨by decide, by decide⟩ (?_ : Sd X 15 [(0, 18), (1, 0)] [0, 0] _)
    refine sd_icmp_lt (tgt := 24) hC dX8_pass_15 rfl (?_ : Sd X 24 [(0, 18), (1, 0)] [] _) (?_ : Sd X 18 [(0, 18), (1, 0)] [] _)
    · exact Sd.weak (by decide) (S_24)
    · refine sd_iload_n hC dX8_pass_18 rfl (by decide) (?_ : Sd X 19 [(0, 18), (1, 0)] [0] _)
      refine sd_bipush hC dX8_pass_19 (by decide) (?_ : Sd X 21 [(0, 18), (1, 0)] [0, 0] _)
      refine sd_icmp_le (tgt := 30) hC dX8_pass_21 rfl (?_ : Sd X 30 [(0, 18), (1, 0)] [] _) (?_ : Sd X 24 [(0, 18), (1, 0)] [] _)
      · refine sd_aload_n hC 18 dX8_pass_30 rfl (by decide) (by decide) (?_ : Sd X 31 [(0, 18), (1, 0)] [18] _)
        refine sd_get hC (ci := 8) (j := 9) (C := RX8) (T := TX8) (N := 18) rfl rfl (by decide) in_X8 wl_2_117 dX8_pass_31 (?_ : Sd X 34 [(0, 18), (1, 0)] [12] _)
        refine sd_get hC (ci := 2) (j := 0) (C := RX2) (T := TX2) (N := 10) rfl rfl (by decide) in_X2 wl_2_37 dX8_pass_34 (?_ : Sd X 37 [(0, 18), (1, 0)] [0] _)
        refine sd_iload_n hC dX8_pass_37 rfl (by decide) (?_ : Sd X 38 [(0, 18), (1, 0)] [0, 0] _)
        refine sd_iadd hC dX8_pass_38 (?_ : Sd X 39 [(0, 18), (1, 0)] [0] _)
        refine sd_bipush hC dX8_pass_39 (by decide) (?_ : Sd X 41 [(0, 18), (1, 0)] [0, 0] _)
        refine sd_icmp_le (tgt := 50) hC dX8_pass_41 rfl (?_ : Sd X 50 [(0, 18), (1, 0)] [] _) (?_ : Sd X 44 [(0, 18), (1, 0)] [] _)
        · refine sd_iconst hC dX8_pass_50 ⟨by decide, by decide⟩ (?_ : Sd X 51 [(0, 18), (1, 0)] [0] _)
          refine sd_istore_n (Γ' := [(0, 18), (1, 0), (2, 0)]) hC dX8_pass_51 rfl (by rw [e2]; decide) (by decide) (?_ : Sd X 52 [(0, 18), (1, 0), (2, 0)] [] _)
          exact Sd.weak (by decide) (S_52)
        · refine sd_aload_n hC 18 dX8_pass_44 rfl (by decide) (by decide) (?_ : Sd X 45 [(0, 18), (1, 0)] [18] _)
          refine sd_iconst hC dX8_pass_45 ⟨by decide, by decide⟩ (?_ : Sd X 46 [(0, 18), (1, 0)] [0, 18] _)
          refine sd_inv0 (τ := []) (τr := [0]) (ci := 8) (q := (RX8, TX8, 18)) hC WG (M_X8_refuse _) rfl rfl rfl rfl  rfl rfl wl_2_175 wl_2_177 wp_1 wl_1_1 wl_2_178 hd_X8_refuse (by rw [e3]; decide) (by decide) dX8_pass_46 (?_ : Sd X 49 [(0, 18), (1, 0)] [0] _)
          exact sd_ireturn hC hT dX8_pass_49
      · exact Sd.weak (by decide) (S_24)
  · refine sd_aload_n hC 18 dX8_pass_7 rfl (by decide) (by decide) (?_ : Sd X 8 [(0, 18), (1, 0)] [18] _)
    refine sd_iconst hC dX8_pass_8 ⟨by decide, by decide⟩ (?_ : Sd X 9 [(0, 18), (1, 0)] [0, 18] _)
    refine sd_inv0 (τ := []) (τr := [0]) (ci := 8) (q := (RX8, TX8, 18)) hC WG (M_X8_refuse _) rfl rfl rfl rfl  rfl rfl wl_2_175 wl_2_177 wp_1 wl_1_1 wl_2_178 hd_X8_refuse (by rw [e3]; decide) (by decide) dX8_pass_9 (?_ : Sd X 12 [(0, 18), (1, 0)] [0] _)
    exact sd_ireturn hC hT dX8_pass_12
theorem hd_X8_pay : yX8_pay.cls ≠ "java/lang/invoke/MethodHandle" ∧ yX8_pay.cls ≠ "java/lang/invoke/VarHandle" ∧ (parseMethodDescriptor yX8_pay.desc).map (fun d => d.parameters.length) = some 5 := by decide +kernel
set_option maxRecDepth 100000 in
set_option maxHeartbeats 4000000 in
theorem M_X8_pay (l : Launch) : Mt l yX8_pay (Cond.code yX8_pay cX8_pay 6 (some .int) :: WALL) { frames := 6, cells := 0, slots := 0, locals := 149 } [18, 0, 0, 0, 0, 0] (some 0) T_X8_pay := by
  refine Mt.mk (B := E_X8_pay) (by decide +kernel) (by decide) (fun _ _ _ hh => hh) ?_
  intro X Q e1 e2 e3 hC hN hT
  subst e1
  have hC : CF X cX8_pay RX8 WALL := hC
  have S_43 : Sd X 43 [(0, 18), (1, 0), (2, 0), (3, 0), (4, 0), (5, 0)] [0, 18] (B_X8_pay_43 Q) := by
    unfold B_X8_pay_43
    refine sd_inv0 (τ := []) (τr := [0]) (ci := 8) (q := (RX8, TX8, 18)) hC WG (M_X8_grant _) rfl rfl rfl rfl  rfl rfl wl_3_225 wl_3_227 wp_34 wl_1_1 wl_3_228 hd_X8_grant (by rw [e3]; decide) (by decide) dX8_pay_43 (?_ : Sd X 46 [(0, 18), (1, 0), (2, 0), (3, 0), (4, 0), (5, 0)] [0] _)
    exact sd_ireturn hC hT dX8_pay_46
  refine (?_ : Sd X 0 [(0, 18), (1, 0), (2, 0), (3, 0), (4, 0), (5, 0)] [] (E_X8_pay Q))
  unfold E_X8_pay
  refine sd_aload_n hC 18 dX8_pay_0 rfl (by decide) (by decide) (?_ : Sd X 1 [(0, 18), (1, 0), (2, 0), (3, 0), (4, 0), (5, 0)] [18] _)
  refine sd_iload_n hC dX8_pay_1 rfl (by decide) (?_ : Sd X 2 [(0, 18), (1, 0), (2, 0), (3, 0), (4, 0), (5, 0)] [0, 18] _)
  refine sd_iload_n hC dX8_pay_2 rfl (by decide) (?_ : Sd X 3 [(0, 18), (1, 0), (2, 0), (3, 0), (4, 0), (5, 0)] [0, 0, 18] _)
  refine sd_iload_n hC dX8_pay_3 rfl (by decide) (?_ : Sd X 4 [(0, 18), (1, 0), (2, 0), (3, 0), (4, 0), (5, 0)] [0, 0, 0, 18] _)
  refine sd_iload hC dX8_pay_4 (by decide) (?_ : Sd X 6 [(0, 18), (1, 0), (2, 0), (3, 0), (4, 0), (5, 0)] [0, 0, 0, 0, 18] _)
  refine sd_iload hC dX8_pay_6 (by decide) (?_ : Sd X 8 [(0, 18), (1, 0), (2, 0), (3, 0), (4, 0), (5, 0)] [0, 0, 0, 0, 0, 18] _)
  refine sd_inv0 (τ := []) (τr := [0, 0, 0, 0, 0]) (ci := 8) (q := (RX8, TX8, 18)) hC WG (M_X8_ask _) rfl rfl rfl rfl  rfl rfl wl_4_63 wl_4_65 wp_40 wl_1_1 wl_4_66 hd_X8_ask (by rw [e3]; decide) (by decide) dX8_pay_8 (?_ : Sd X 11 [(0, 18), (1, 0), (2, 0), (3, 0), (4, 0), (5, 0)] [0] _)
  refine sd_if_ne (tgt := 20) hC dX8_pay_11 rfl (?_ : Sd X 20 [(0, 18), (1, 0), (2, 0), (3, 0), (4, 0), (5, 0)] [] _) (?_ : Sd X 14 [(0, 18), (1, 0), (2, 0), (3, 0), (4, 0), (5, 0)] [] _)
  · refine sd_aload_n hC 18 dX8_pay_20 rfl (by decide) (by decide) (?_ : Sd X 21 [(0, 18), (1, 0), (2, 0), (3, 0), (4, 0), (5, 0)] [18] _)
    refine sd_aload_n hC 18 dX8_pay_21 rfl (by decide) (by decide) (?_ : Sd X 22 [(0, 18), (1, 0), (2, 0), (3, 0), (4, 0), (5, 0)] [18, 18] _)
    refine sd_get hC (ci := 8) (j := 7) (C := RX8) (T := TX8) (N := 18) rfl rfl (by decide) in_X8 wl_2_115 dX8_pay_22 (?_ : Sd X 25 [(0, 18), (1, 0), (2, 0), (3, 0), (4, 0), (5, 0)] [17, 18] _)
    refine sd_get hC (ci := 7) (j := 0) (C := RX7) (T := TX7) (N := 7) rfl rfl (by decide) in_X7 wl_1_235 dX8_pay_25 (?_ : Sd X 28 [(0, 18), (1, 0), (2, 0), (3, 0), (4, 0), (5, 0)] [0, 18] _)
    refine sd_if_eq (tgt := 41) hC dX8_pay_28 rfl (?_ : Sd X 41 [(0, 18), (1, 0), (2, 0), (3, 0), (4, 0), (5, 0)] [18] _) (?_ : Sd X 31 [(0, 18), (1, 0), (2, 0), (3, 0), (4, 0), (5, 0)] [18] _)
    · refine sd_bipush hC dX8_pay_41 (by decide) (?_ : Sd X 43 [(0, 18), (1, 0), (2, 0), (3, 0), (4, 0), (5, 0)] [0, 18] _)
      exact Sd.weak (by decide) (S_43)
    · refine sd_aload_n hC 18 dX8_pay_31 rfl (by decide) (by decide) (?_ : Sd X 32 [(0, 18), (1, 0), (2, 0), (3, 0), (4, 0), (5, 0)] [18, 18] _)
      refine sd_get hC (ci := 8) (j := 7) (C := RX8) (T := TX8) (N := 18) rfl rfl (by decide) in_X8 wl_2_115 dX8_pay_32 (?_ : Sd X 35 [(0, 18), (1, 0), (2, 0), (3, 0), (4, 0), (5, 0)] [17, 18] _)
      refine sd_get hC (ci := 7) (j := 2) (C := RX7) (T := TX7) (N := 7) rfl rfl (by decide) in_X7 wl_2_0 dX8_pay_35 (?_ : Sd X 38 [(0, 18), (1, 0), (2, 0), (3, 0), (4, 0), (5, 0)] [0, 18] _)
      refine sd_goto (tgt := 43) hC dX8_pay_38 rfl (?_ : Sd X 43 [(0, 18), (1, 0), (2, 0), (3, 0), (4, 0), (5, 0)] [0, 18] _)
      exact Sd.weak (by decide) (S_43)
  · refine sd_aload_n hC 18 dX8_pay_14 rfl (by decide) (by decide) (?_ : Sd X 15 [(0, 18), (1, 0), (2, 0), (3, 0), (4, 0), (5, 0)] [18] _)
    refine sd_iconst hC dX8_pay_15 ⟨by decide, by decide⟩ (?_ : Sd X 16 [(0, 18), (1, 0), (2, 0), (3, 0), (4, 0), (5, 0)] [0, 18] _)
    refine sd_inv0 (τ := []) (τr := [0]) (ci := 8) (q := (RX8, TX8, 18)) hC WG (M_X8_refuse _) rfl rfl rfl rfl  rfl rfl wl_2_175 wl_2_177 wp_1 wl_1_1 wl_2_178 hd_X8_refuse (by rw [e3]; decide) (by decide) dX8_pay_16 (?_ : Sd X 19 [(0, 18), (1, 0), (2, 0), (3, 0), (4, 0), (5, 0)] [0] _)
    exact sd_ireturn hC hT dX8_pay_19
theorem hd_X8_payOf : yX8_payOf.cls ≠ "java/lang/invoke/MethodHandle" ∧ yX8_payOf.cls ≠ "java/lang/invoke/VarHandle" ∧ (parseMethodDescriptor yX8_payOf.desc).map (fun d => d.parameters.length) = some 1 := by decide +kernel
set_option maxRecDepth 100000 in
set_option maxHeartbeats 4000000 in
theorem M_X8_payOf (l : Launch) : Mt l yX8_payOf (Cond.code yX8_payOf cX8_payOf 2 (some .int) :: WALL) { frames := 2, cells := 0, slots := 0, locals := 42 } [18, 0] (some 0) T_X8_payOf := by
  refine Mt.mk (B := E_X8_payOf) (by decide +kernel) (by decide) (fun _ _ _ hh => hh) ?_
  intro X Q e1 e2 e3 hC hN hT
  subst e1
  have hC : CF X cX8_payOf RX8 WALL := hC
  have S_41 : Sd X 41 [(0, 18), (1, 0)] [0, 18] (B_X8_payOf_41 Q) := by
    unfold B_X8_payOf_41
    refine sd_inv0 (τ := []) (τr := [0]) (ci := 8) (q := (RX8, TX8, 18)) hC WG (M_X8_grant _) rfl rfl rfl rfl  rfl rfl wl_3_225 wl_3_227 wp_34 wl_1_1 wl_3_228 hd_X8_grant (by rw [e3]; decide) (by decide) dX8_payOf_41 (?_ : Sd X 44 [(0, 18), (1, 0)] [0] _)
    exact sd_ireturn hC hT dX8_payOf_44
  refine (?_ : Sd X 0 [(0, 18), (1, 0)] [] (E_X8_payOf Q))
  unfold E_X8_payOf
  refine sd_aload_n hC 18 dX8_payOf_0 rfl (by decide) (by decide) (?_ : Sd X 1 [(0, 18), (1, 0)] [18] _)
  refine sd_iload_n hC dX8_payOf_1 rfl (by decide) (?_ : Sd X 2 [(0, 18), (1, 0)] [0, 18] _)
  refine sd_inv0 (τ := []) (τr := [0]) (ci := 8) (q := (RX8, TX8, 18)) hC WG (M_X8_isOrder _) rfl rfl rfl rfl  rfl rfl wl_4_79 wl_4_81 wp_42 wl_1_1 wl_4_82 hd_X8_isOrder (by rw [e3]; decide) (by decide) dX8_payOf_2 (?_ : Sd X 5 [(0, 18), (1, 0)] [0] _)
  refine sd_if_ne (tgt := 14) hC dX8_payOf_5 rfl (?_ : Sd X 14 [(0, 18), (1, 0)] [] _) (?_ : Sd X 8 [(0, 18), (1, 0)] [] _)
  · refine sd_aload_n hC 18 dX8_payOf_14 rfl (by decide) (by decide) (?_ : Sd X 15 [(0, 18), (1, 0)] [18] _)
    refine sd_aload_n hC 18 dX8_payOf_15 rfl (by decide) (by decide) (?_ : Sd X 16 [(0, 18), (1, 0)] [18, 18] _)
    refine sd_get hC (ci := 8) (j := 6) (C := RX8) (T := TX8) (N := 18) rfl rfl (by decide) in_X8 wl_2_114 dX8_payOf_16 (?_ : Sd X 19 [(0, 18), (1, 0)] [117, 18] _)
    refine sd_iload_n hC dX8_payOf_19 rfl (by decide) (?_ : Sd X 20 [(0, 18), (1, 0)] [0, 117, 18] _)
    refine sd_aaload (e := 17) hC (List.mem_of_getElem? (i := 6) rfl) rfl rfl dX8_payOf_20 (?_ : Sd X 21 [(0, 18), (1, 0)] [17, 18] _)
    refine sd_get hC (ci := 7) (j := 0) (C := RX7) (T := TX7) (N := 7) rfl rfl (by decide) in_X7 wl_1_235 dX8_payOf_21 (?_ : Sd X 24 [(0, 18), (1, 0)] [0, 18] _)
    refine sd_if_eq (tgt := 39) hC dX8_payOf_24 rfl (?_ : Sd X 39 [(0, 18), (1, 0)] [18] _) (?_ : Sd X 27 [(0, 18), (1, 0)] [18] _)
    · refine sd_bipush hC dX8_payOf_39 (by decide) (?_ : Sd X 41 [(0, 18), (1, 0)] [0, 18] _)
      exact Sd.weak (by decide) (S_41)
    · refine sd_aload_n hC 18 dX8_payOf_27 rfl (by decide) (by decide) (?_ : Sd X 28 [(0, 18), (1, 0)] [18, 18] _)
      refine sd_get hC (ci := 8) (j := 6) (C := RX8) (T := TX8) (N := 18) rfl rfl (by decide) in_X8 wl_2_114 dX8_payOf_28 (?_ : Sd X 31 [(0, 18), (1, 0)] [117, 18] _)
      refine sd_iload_n hC dX8_payOf_31 rfl (by decide) (?_ : Sd X 32 [(0, 18), (1, 0)] [0, 117, 18] _)
      refine sd_aaload (e := 17) hC (List.mem_of_getElem? (i := 6) rfl) rfl rfl dX8_payOf_32 (?_ : Sd X 33 [(0, 18), (1, 0)] [17, 18] _)
      refine sd_get hC (ci := 7) (j := 2) (C := RX7) (T := TX7) (N := 7) rfl rfl (by decide) in_X7 wl_2_0 dX8_payOf_33 (?_ : Sd X 36 [(0, 18), (1, 0)] [0, 18] _)
      refine sd_goto (tgt := 41) hC dX8_payOf_36 rfl (?_ : Sd X 41 [(0, 18), (1, 0)] [0, 18] _)
      exact Sd.weak (by decide) (S_41)
  · refine sd_aload_n hC 18 dX8_payOf_8 rfl (by decide) (by decide) (?_ : Sd X 9 [(0, 18), (1, 0)] [18] _)
    refine sd_iconst hC dX8_payOf_9 ⟨by decide, by decide⟩ (?_ : Sd X 10 [(0, 18), (1, 0)] [0, 18] _)
    refine sd_inv0 (τ := []) (τr := [0]) (ci := 8) (q := (RX8, TX8, 18)) hC WG (M_X8_refuse _) rfl rfl rfl rfl  rfl rfl wl_2_175 wl_2_177 wp_1 wl_1_1 wl_2_178 hd_X8_refuse (by rw [e3]; decide) (by decide) dX8_payOf_10 (?_ : Sd X 13 [(0, 18), (1, 0)] [0] _)
    exact sd_ireturn hC hT dX8_payOf_13
theorem wl_5_5 : Cond.methodLink RX8 262 yX6_measure ∈ WALL := tb5 (List.mem_of_getElem? (i := 5) rfl) rfl
theorem hd_X8_ram : yX8_ram.cls ≠ "java/lang/invoke/MethodHandle" ∧ yX8_ram.cls ≠ "java/lang/invoke/VarHandle" ∧ (parseMethodDescriptor yX8_ram.desc).map (fun d => d.parameters.length) = some 3 := by decide +kernel
set_option maxRecDepth 100000 in
set_option maxHeartbeats 4000000 in
theorem M_X8_ram (l : Launch) : Mt l yX8_ram (Cond.code yX8_ram cX8_ram 4 (some .int) :: WALL) { frames := 5, cells := 0, slots := 0, locals := 120 } [18, 0, 0, 0] (some 0) T_X8_ram := by
  refine Mt.mk (B := E_X8_ram) (by decide +kernel) (by decide) (fun _ _ _ hh => hh) ?_
  intro X Q e1 e2 e3 hC hN hT
  subst e1
  have hC : CF X cX8_ram RX8 WALL := hC
  have S_34 : Sd X 34 [(0, 18), (1, 0), (2, 0), (3, 0)] [] (B_X8_ram_34 Q) := by
    unfold B_X8_ram_34
    refine sd_aload_n hC 18 dX8_ram_34 rfl (by decide) (by decide) (?_ : Sd X 35 [(0, 18), (1, 0), (2, 0), (3, 0)] [18] _)
    refine sd_iconst hC dX8_ram_35 ⟨by decide, by decide⟩ (?_ : Sd X 36 [(0, 18), (1, 0), (2, 0), (3, 0)] [0, 18] _)
    refine sd_inv0 (τ := []) (τr := [0]) (ci := 8) (q := (RX8, TX8, 18)) hC WG (M_X8_refuse _) rfl rfl rfl rfl  rfl rfl wl_2_175 wl_2_177 wp_1 wl_1_1 wl_2_178 hd_X8_refuse (by rw [e3]; decide) (by decide) dX8_ram_36 (?_ : Sd X 39 [(0, 18), (1, 0), (2, 0), (3, 0)] [0] _)
    exact sd_ireturn hC hT dX8_ram_39
  refine (?_ : Sd X 0 [(0, 18), (1, 0), (2, 0), (3, 0)] [] (E_X8_ram Q))
  unfold E_X8_ram
  refine sd_aload_n hC 18 dX8_ram_0 rfl (by decide) (by decide) (?_ : Sd X 1 [(0, 18), (1, 0), (2, 0), (3, 0)] [18] _)
  refine sd_inv0 (τ := []) (τr := []) (ci := 8) (q := (RX8, TX8, 18)) hC WG (M_X8_isCity _) rfl rfl rfl rfl  rfl rfl wl_4_99 wl_4_101 wp_43 wl_1_1 wl_4_102 hd_X8_isCity (by rw [e3]; decide) (by decide) dX8_ram_1 (?_ : Sd X 4 [(0, 18), (1, 0), (2, 0), (3, 0)] [0] _)
  refine sd_if_ne (tgt := 13) hC dX8_ram_4 rfl (?_ : Sd X 13 [(0, 18), (1, 0), (2, 0), (3, 0)] [] _) (?_ : Sd X 7 [(0, 18), (1, 0), (2, 0), (3, 0)] [] _)
  · refine sd_iload_n hC dX8_ram_13 rfl (by decide) (?_ : Sd X 14 [(0, 18), (1, 0), (2, 0), (3, 0)] [0] _)
    refine sd_invs (τ := []) (τs := [0]) hC false "" WG (M_X8_isSize _) rfl rfl rfl rfl wl_4_226 wl_4_227 wl_1_1 wl_4_228 hd_X8_isSize (by rw [e3]; decide) (by decide) dX8_ram_14 (?_ : Sd X 17 [(0, 18), (1, 0), (2, 0), (3, 0)] [0] _)
    refine sd_if_eq (tgt := 34) hC dX8_ram_17 rfl (?_ : Sd X 34 [(0, 18), (1, 0), (2, 0), (3, 0)] [] _) (?_ : Sd X 20 [(0, 18), (1, 0), (2, 0), (3, 0)] [] _)
    · exact Sd.weak (by decide) (S_34)
    · refine sd_iload_n hC dX8_ram_20 rfl (by decide) (?_ : Sd X 21 [(0, 18), (1, 0), (2, 0), (3, 0)] [0] _)
      refine sd_invs (τ := []) (τs := [0]) hC false "" WG (M_X8_isSize _) rfl rfl rfl rfl wl_4_226 wl_4_227 wl_1_1 wl_4_228 hd_X8_isSize (by rw [e3]; decide) (by decide) dX8_ram_21 (?_ : Sd X 24 [(0, 18), (1, 0), (2, 0), (3, 0)] [0] _)
      refine sd_if_eq (tgt := 34) hC dX8_ram_24 rfl (?_ : Sd X 34 [(0, 18), (1, 0), (2, 0), (3, 0)] [] _) (?_ : Sd X 27 [(0, 18), (1, 0), (2, 0), (3, 0)] [] _)
      · exact Sd.weak (by decide) (S_34)
      · refine sd_iload_n hC dX8_ram_27 rfl (by decide) (?_ : Sd X 28 [(0, 18), (1, 0), (2, 0), (3, 0)] [0] _)
        refine sd_invs (τ := []) (τs := [0]) hC false "" WG (M_X8_isSize _) rfl rfl rfl rfl wl_4_226 wl_4_227 wl_1_1 wl_4_228 hd_X8_isSize (by rw [e3]; decide) (by decide) dX8_ram_28 (?_ : Sd X 31 [(0, 18), (1, 0), (2, 0), (3, 0)] [0] _)
        refine sd_if_ne (tgt := 40) hC dX8_ram_31 rfl (?_ : Sd X 40 [(0, 18), (1, 0), (2, 0), (3, 0)] [] _) (?_ : Sd X 34 [(0, 18), (1, 0), (2, 0), (3, 0)] [] _)
        · refine sd_aload_n hC 18 dX8_ram_40 rfl (by decide) (by decide) (?_ : Sd X 41 [(0, 18), (1, 0), (2, 0), (3, 0)] [18] _)
          refine sd_get hC (ci := 8) (j := 14) (C := RX8) (T := TX8) (N := 18) rfl rfl (by decide) in_X8 wl_2_122 dX8_ram_41 (?_ : Sd X 44 [(0, 18), (1, 0), (2, 0), (3, 0)] [16] _)
          refine sd_iload_n hC dX8_ram_44 rfl (by decide) (?_ : Sd X 45 [(0, 18), (1, 0), (2, 0), (3, 0)] [0, 16] _)
          refine sd_iload_n hC dX8_ram_45 rfl (by decide) (?_ : Sd X 46 [(0, 18), (1, 0), (2, 0), (3, 0)] [0, 0, 16] _)
          refine sd_iload_n hC dX8_ram_46 rfl (by decide) (?_ : Sd X 47 [(0, 18), (1, 0), (2, 0), (3, 0)] [0, 0, 0, 16] _)
          refine sd_inv0v (τ := []) (τr := [0, 0, 0]) (ci := 6) (q := (RX6, TX6, 7)) hC WG (M_X6_measure _) rfl rfl rfl rfl  rfl rfl wl_5_5 wl_3_100 wl_3_101 wl_1_3 wl_3_102 hd_X6_measure (by rw [e3]; decide) (by decide) dX8_ram_47 (?_ : Sd X 50 [(0, 18), (1, 0), (2, 0), (3, 0)] [] _)
          refine sd_aload_n hC 18 dX8_ram_50 rfl (by decide) (by decide) (?_ : Sd X 51 [(0, 18), (1, 0), (2, 0), (3, 0)] [18] _)
          refine sd_aload_n hC 18 dX8_ram_51 rfl (by decide) (by decide) (?_ : Sd X 52 [(0, 18), (1, 0), (2, 0), (3, 0)] [18, 18] _)
          refine sd_get hC (ci := 8) (j := 2) (C := RX8) (T := TX8) (N := 18) rfl rfl (by decide) in_X8 wl_2_110 dX8_ram_52 (?_ : Sd X 55 [(0, 18), (1, 0), (2, 0), (3, 0)] [11, 18] _)
          refine sd_aload_n hC 18 dX8_ram_55 rfl (by decide) (by decide) (?_ : Sd X 56 [(0, 18), (1, 0), (2, 0), (3, 0)] [18, 11, 18] _)
          refine sd_get hC (ci := 8) (j := 14) (C := RX8) (T := TX8) (N := 18) rfl rfl (by decide) in_X8 wl_2_122 dX8_ram_56 (?_ : Sd X 59 [(0, 18), (1, 0), (2, 0), (3, 0)] [16, 11, 18] _)
          refine sd_iconst hC dX8_ram_59 ⟨by decide, by decide⟩ (?_ : Sd X 60 [(0, 18), (1, 0), (2, 0), (3, 0)] [0, 16, 11, 18] _)
          refine sd_inv0 (τ := [18]) (τr := [16, 0]) (ci := 1) (q := (RX1, TX1, 12)) hC WG (M_X1_depthOf _) rfl rfl rfl rfl  rfl rfl wl_4_41 wl_4_42 wl_4_43 wl_1_2 wl_4_44 hd_X1_depthOf (by rw [e3]; decide) (by decide) dX8_ram_60 (?_ : Sd X 63 [(0, 18), (1, 0), (2, 0), (3, 0)] [0, 18] _)
          refine sd_inv0 (τ := []) (τr := [0]) (ci := 8) (q := (RX8, TX8, 18)) hC WG (M_X8_grant _) rfl rfl rfl rfl  rfl rfl wl_3_225 wl_3_227 wp_34 wl_1_1 wl_3_228 hd_X8_grant (by rw [e3]; decide) (by decide) dX8_ram_63 (?_ : Sd X 66 [(0, 18), (1, 0), (2, 0), (3, 0)] [0] _)
          exact sd_ireturn hC hT dX8_ram_66
        · exact Sd.weak (by decide) (S_34)
  · refine sd_aload_n hC 18 dX8_ram_7 rfl (by decide) (by decide) (?_ : Sd X 8 [(0, 18), (1, 0), (2, 0), (3, 0)] [18] _)
    refine sd_iconst hC dX8_ram_8 ⟨by decide, by decide⟩ (?_ : Sd X 9 [(0, 18), (1, 0), (2, 0), (3, 0)] [0, 18] _)
    refine sd_inv0 (τ := []) (τr := [0]) (ci := 8) (q := (RX8, TX8, 18)) hC WG (M_X8_refuse _) rfl rfl rfl rfl  rfl rfl wl_2_175 wl_2_177 wp_1 wl_1_1 wl_2_178 hd_X8_refuse (by rw [e3]; decide) (by decide) dX8_ram_9 (?_ : Sd X 12 [(0, 18), (1, 0), (2, 0), (3, 0)] [0] _)
    exact sd_ireturn hC hT dX8_ram_12
theorem hd_X8_ramBy : yX8_ramBy.cls ≠ "java/lang/invoke/MethodHandle" ∧ yX8_ramBy.cls ≠ "java/lang/invoke/VarHandle" ∧ (parseMethodDescriptor yX8_ramBy.desc).map (fun d => d.parameters.length) = some 5 := by decide +kernel
set_option maxRecDepth 100000 in
set_option maxHeartbeats 4000000 in
theorem M_X8_ramBy (l : Launch) : Mt l yX8_ramBy (Cond.code yX8_ramBy cX8_ramBy 9 (some .int) :: WALL) { frames := 5, cells := 0, slots := 0, locals := 120 } [18, 0, 0, 0, 0, 0] (some 0) T_X8_ramBy := by
  refine Mt.mk (B := E_X8_ramBy) (by decide +kernel) (by decide) (fun _ _ _ hh => hh) ?_
  intro X Q e1 e2 e3 hC hN hT
  subst e1
  have hC : CF X cX8_ramBy RX8 WALL := hC
  have S_44 : Sd X 44 [(0, 18), (1, 0), (2, 0), (3, 0), (4, 0), (5, 0)] [] (B_X8_ramBy_44 Q) := by
    unfold B_X8_ramBy_44
    refine sd_aload_n hC 18 dX8_ramBy_44 rfl (by decide) (by decide) (?_ : Sd X 45 [(0, 18), (1, 0), (2, 0), (3, 0), (4, 0), (5, 0)] [18] _)
    refine sd_iconst hC dX8_ramBy_45 ⟨by decide, by decide⟩ (?_ : Sd X 46 [(0, 18), (1, 0), (2, 0), (3, 0), (4, 0), (5, 0)] [0, 18] _)
    refine sd_inv0 (τ := []) (τr := [0]) (ci := 8) (q := (RX8, TX8, 18)) hC WG (M_X8_refuse _) rfl rfl rfl rfl  rfl rfl wl_2_175 wl_2_177 wp_1 wl_1_1 wl_2_178 hd_X8_refuse (by rw [e3]; decide) (by decide) dX8_ramBy_46 (?_ : Sd X 49 [(0, 18), (1, 0), (2, 0), (3, 0), (4, 0), (5, 0)] [0] _)
    exact sd_ireturn hC hT dX8_ramBy_49
  refine (?_ : Sd X 0 [(0, 18), (1, 0), (2, 0), (3, 0), (4, 0), (5, 0)] [] (E_X8_ramBy Q))
  unfold E_X8_ramBy
  refine sd_aload_n hC 18 dX8_ramBy_0 rfl (by decide) (by decide) (?_ : Sd X 1 [(0, 18), (1, 0), (2, 0), (3, 0), (4, 0), (5, 0)] [18] _)
  refine sd_iload_n hC dX8_ramBy_1 rfl (by decide) (?_ : Sd X 2 [(0, 18), (1, 0), (2, 0), (3, 0), (4, 0), (5, 0)] [0, 18] _)
  refine sd_inv0 (τ := []) (τr := [0]) (ci := 8) (q := (RX8, TX8, 18)) hC WG (M_X8_isGate _) rfl rfl rfl rfl  rfl rfl wl_4_2 wl_4_4 wp_35 wl_1_1 wl_4_5 hd_X8_isGate (by rw [e3]; decide) (by decide) dX8_ramBy_2 (?_ : Sd X 5 [(0, 18), (1, 0), (2, 0), (3, 0), (4, 0), (5, 0)] [0] _)
  refine sd_if_ne (tgt := 14) hC dX8_ramBy_5 rfl (?_ : Sd X 14 [(0, 18), (1, 0), (2, 0), (3, 0), (4, 0), (5, 0)] [] _) (?_ : Sd X 8 [(0, 18), (1, 0), (2, 0), (3, 0), (4, 0), (5, 0)] [] _)
  · refine sd_iload_n hC dX8_ramBy_14 rfl (by decide) (?_ : Sd X 15 [(0, 18), (1, 0), (2, 0), (3, 0), (4, 0), (5, 0)] [0] _)
    refine sd_invs (τ := []) (τs := [0]) hC false "" WG (M_X8_isSize _) rfl rfl rfl rfl wl_4_226 wl_4_227 wl_1_1 wl_4_228 hd_X8_isSize (by rw [e3]; decide) (by decide) dX8_ramBy_15 (?_ : Sd X 18 [(0, 18), (1, 0), (2, 0), (3, 0), (4, 0), (5, 0)] [0] _)
    refine sd_if_eq (tgt := 44) hC dX8_ramBy_18 rfl (?_ : Sd X 44 [(0, 18), (1, 0), (2, 0), (3, 0), (4, 0), (5, 0)] [] _) (?_ : Sd X 21 [(0, 18), (1, 0), (2, 0), (3, 0), (4, 0), (5, 0)] [] _)
    · exact Sd.weak (by decide) (S_44)
    · refine sd_iload_n hC dX8_ramBy_21 rfl (by decide) (?_ : Sd X 22 [(0, 18), (1, 0), (2, 0), (3, 0), (4, 0), (5, 0)] [0] _)
      refine sd_invs (τ := []) (τs := [0]) hC false "" WG (M_X8_isSize _) rfl rfl rfl rfl wl_4_226 wl_4_227 wl_1_1 wl_4_228 hd_X8_isSize (by rw [e3]; decide) (by decide) dX8_ramBy_22 (?_ : Sd X 25 [(0, 18), (1, 0), (2, 0), (3, 0), (4, 0), (5, 0)] [0] _)
      refine sd_if_eq (tgt := 44) hC dX8_ramBy_25 rfl (?_ : Sd X 44 [(0, 18), (1, 0), (2, 0), (3, 0), (4, 0), (5, 0)] [] _) (?_ : Sd X 28 [(0, 18), (1, 0), (2, 0), (3, 0), (4, 0), (5, 0)] [] _)
      · exact Sd.weak (by decide) (S_44)
      · refine sd_iload hC dX8_ramBy_28 (by decide) (?_ : Sd X 30 [(0, 18), (1, 0), (2, 0), (3, 0), (4, 0), (5, 0)] [0] _)
        refine sd_invs (τ := []) (τs := [0]) hC false "" WG (M_X8_isSize _) rfl rfl rfl rfl wl_4_226 wl_4_227 wl_1_1 wl_4_228 hd_X8_isSize (by rw [e3]; decide) (by decide) dX8_ramBy_30 (?_ : Sd X 33 [(0, 18), (1, 0), (2, 0), (3, 0), (4, 0), (5, 0)] [0] _)
        refine sd_if_eq (tgt := 44) hC dX8_ramBy_33 rfl (?_ : Sd X 44 [(0, 18), (1, 0), (2, 0), (3, 0), (4, 0), (5, 0)] [] _) (?_ : Sd X 36 [(0, 18), (1, 0), (2, 0), (3, 0), (4, 0), (5, 0)] [] _)
        · exact Sd.weak (by decide) (S_44)
        · refine sd_iload hC dX8_ramBy_36 (by decide) (?_ : Sd X 38 [(0, 18), (1, 0), (2, 0), (3, 0), (4, 0), (5, 0)] [0] _)
          refine sd_invs (τ := []) (τs := [0]) hC false "" WG (M_X8_isSize _) rfl rfl rfl rfl wl_4_226 wl_4_227 wl_1_1 wl_4_228 hd_X8_isSize (by rw [e3]; decide) (by decide) dX8_ramBy_38 (?_ : Sd X 41 [(0, 18), (1, 0), (2, 0), (3, 0), (4, 0), (5, 0)] [0] _)
          refine sd_if_ne (tgt := 50) hC dX8_ramBy_41 rfl (?_ : Sd X 50 [(0, 18), (1, 0), (2, 0), (3, 0), (4, 0), (5, 0)] [] _) (?_ : Sd X 44 [(0, 18), (1, 0), (2, 0), (3, 0), (4, 0), (5, 0)] [] _)
          · refine sd_aload_n hC 18 dX8_ramBy_50 rfl (by decide) (by decide) (?_ : Sd X 51 [(0, 18), (1, 0), (2, 0), (3, 0), (4, 0), (5, 0)] [18] _)
            refine sd_get hC (ci := 8) (j := 14) (C := RX8) (T := TX8) (N := 18) rfl rfl (by decide) in_X8 wl_2_122 dX8_ramBy_51 (?_ : Sd X 54 [(0, 18), (1, 0), (2, 0), (3, 0), (4, 0), (5, 0)] [16] _)
            refine sd_iload_n hC dX8_ramBy_54 rfl (by decide) (?_ : Sd X 55 [(0, 18), (1, 0), (2, 0), (3, 0), (4, 0), (5, 0)] [0, 16] _)
            refine sd_iload_n hC dX8_ramBy_55 rfl (by decide) (?_ : Sd X 56 [(0, 18), (1, 0), (2, 0), (3, 0), (4, 0), (5, 0)] [0, 0, 16] _)
            refine sd_iload hC dX8_ramBy_56 (by decide) (?_ : Sd X 58 [(0, 18), (1, 0), (2, 0), (3, 0), (4, 0), (5, 0)] [0, 0, 0, 16] _)
            refine sd_inv0v (τ := []) (τr := [0, 0, 0]) (ci := 6) (q := (RX6, TX6, 7)) hC WG (M_X6_measure _) rfl rfl rfl rfl  rfl rfl wl_5_5 wl_3_100 wl_3_101 wl_1_3 wl_3_102 hd_X6_measure (by rw [e3]; decide) (by decide) dX8_ramBy_58 (?_ : Sd X 61 [(0, 18), (1, 0), (2, 0), (3, 0), (4, 0), (5, 0)] [] _)
            refine sd_aload_n hC 18 dX8_ramBy_61 rfl (by decide) (by decide) (?_ : Sd X 62 [(0, 18), (1, 0), (2, 0), (3, 0), (4, 0), (5, 0)] [18] _)
            refine sd_get hC (ci := 8) (j := 2) (C := RX8) (T := TX8) (N := 18) rfl rfl (by decide) in_X8 wl_2_110 dX8_ramBy_62 (?_ : Sd X 65 [(0, 18), (1, 0), (2, 0), (3, 0), (4, 0), (5, 0)] [11] _)
            refine sd_get hC (ci := 1) (j := 6) (C := RX1) (T := TX1) (N := 12) rfl rfl (by decide) in_X1 wl_1_104 dX8_ramBy_65 (?_ : Sd X 68 [(0, 18), (1, 0), (2, 0), (3, 0), (4, 0), (5, 0)] [200] _)
            refine sd_iload_n hC dX8_ramBy_68 rfl (by decide) (?_ : Sd X 69 [(0, 18), (1, 0), (2, 0), (3, 0), (4, 0), (5, 0)] [0, 200] _)
            refine sd_aaload (e := 100) hC (List.mem_of_getElem? (i := 7) rfl) rfl rfl dX8_ramBy_69 (?_ : Sd X 70 [(0, 18), (1, 0), (2, 0), (3, 0), (4, 0), (5, 0)] [100] _)
            refine sd_astore (Γ' := [(0, 18), (1, 0), (2, 0), (3, 0), (4, 0), (5, 0), (6, 100)]) hC dX8_ramBy_70 (by decide) (by rw [e2]; decide) (by decide) (?_ : Sd X 72 [(0, 18), (1, 0), (2, 0), (3, 0), (4, 0), (5, 0), (6, 100)] [] _)
            refine sd_aload hC 100 dX8_ramBy_72 (by decide) (by decide) (?_ : Sd X 74 [(0, 18), (1, 0), (2, 0), (3, 0), (4, 0), (5, 0), (6, 100)] [100] _)
            refine sd_iconst hC dX8_ramBy_74 ⟨by decide, by decide⟩ (?_ : Sd X 75 [(0, 18), (1, 0), (2, 0), (3, 0), (4, 0), (5, 0), (6, 100)] [0, 100] _)
            refine sd_iaload hC dX8_ramBy_75 (?_ : Sd X 76 [(0, 18), (1, 0), (2, 0), (3, 0), (4, 0), (5, 0), (6, 100)] [0] _)
            refine sd_istore (Γ' := [(0, 18), (1, 0), (2, 0), (3, 0), (4, 0), (5, 0), (6, 100), (7, 0)]) hC dX8_ramBy_76 (by rw [e2]; decide) (by decide) (?_ : Sd X 78 [(0, 18), (1, 0), (2, 0), (3, 0), (4, 0), (5, 0), (6, 100), (7, 0)] [] _)
            refine sd_aload hC 100 dX8_ramBy_78 (by decide) (by decide) (?_ : Sd X 80 [(0, 18), (1, 0), (2, 0), (3, 0), (4, 0), (5, 0), (6, 100), (7, 0)] [100] _)
            refine sd_iconst hC dX8_ramBy_80 ⟨by decide, by decide⟩ (?_ : Sd X 81 [(0, 18), (1, 0), (2, 0), (3, 0), (4, 0), (5, 0), (6, 100), (7, 0)] [0, 100] _)
            refine sd_iload hC dX8_ramBy_81 (by decide) (?_ : Sd X 83 [(0, 18), (1, 0), (2, 0), (3, 0), (4, 0), (5, 0), (6, 100), (7, 0)] [0, 0, 100] _)
            refine sd_iload hC dX8_ramBy_83 (by decide) (?_ : Sd X 85 [(0, 18), (1, 0), (2, 0), (3, 0), (4, 0), (5, 0), (6, 100), (7, 0)] [0, 0, 0, 100] _)
            refine sd_imax hC wl_4_236 wl_3_143 wl_1_16 wl_3_144 (by rw [e3]; decide) (by decide) dX8_ramBy_85 (?_ : Sd X 88 [(0, 18), (1, 0), (2, 0), (3, 0), (4, 0), (5, 0), (6, 100), (7, 0)] [0, 0, 100] _)
            refine sd_iastore hC dX8_ramBy_88 (?_ : Sd X 89 [(0, 18), (1, 0), (2, 0), (3, 0), (4, 0), (5, 0), (6, 100), (7, 0)] [] _)
            refine sd_aload_n hC 18 dX8_ramBy_89 rfl (by decide) (by decide) (?_ : Sd X 90 [(0, 18), (1, 0), (2, 0), (3, 0), (4, 0), (5, 0), (6, 100), (7, 0)] [18] _)
            refine sd_get hC (ci := 8) (j := 2) (C := RX8) (T := TX8) (N := 18) rfl rfl (by decide) in_X8 wl_2_110 dX8_ramBy_90 (?_ : Sd X 93 [(0, 18), (1, 0), (2, 0), (3, 0), (4, 0), (5, 0), (6, 100), (7, 0)] [11] _)
            refine sd_aload_n hC 18 dX8_ramBy_93 rfl (by decide) (by decide) (?_ : Sd X 94 [(0, 18), (1, 0), (2, 0), (3, 0), (4, 0), (5, 0), (6, 100), (7, 0)] [18, 11] _)
            refine sd_get hC (ci := 8) (j := 14) (C := RX8) (T := TX8) (N := 18) rfl rfl (by decide) in_X8 wl_2_122 dX8_ramBy_94 (?_ : Sd X 97 [(0, 18), (1, 0), (2, 0), (3, 0), (4, 0), (5, 0), (6, 100), (7, 0)] [16, 11] _)
            refine sd_iconst hC dX8_ramBy_97 ⟨by decide, by decide⟩ (?_ : Sd X 98 [(0, 18), (1, 0), (2, 0), (3, 0), (4, 0), (5, 0), (6, 100), (7, 0)] [0, 16, 11] _)
            refine sd_inv0 (τ := []) (τr := [16, 0]) (ci := 1) (q := (RX1, TX1, 12)) hC WG (M_X1_depthOf _) rfl rfl rfl rfl  rfl rfl wl_4_41 wl_4_42 wl_4_43 wl_1_2 wl_4_44 hd_X1_depthOf (by rw [e3]; decide) (by decide) dX8_ramBy_98 (?_ : Sd X 101 [(0, 18), (1, 0), (2, 0), (3, 0), (4, 0), (5, 0), (6, 100), (7, 0)] [0] _)
            refine sd_istore (Γ' := [(0, 18), (1, 0), (2, 0), (3, 0), (4, 0), (5, 0), (6, 100), (7, 0), (8, 0)]) hC dX8_ramBy_101 (by rw [e2]; decide) (by decide) (?_ : Sd X 103 [(0, 18), (1, 0), (2, 0), (3, 0), (4, 0), (5, 0), (6, 100), (7, 0), (8, 0)] [] _)
            refine sd_aload hC 100 dX8_ramBy_103 (by decide) (by decide) (?_ : Sd X 105 [(0, 18), (1, 0), (2, 0), (3, 0), (4, 0), (5, 0), (6, 100), (7, 0), (8, 0)] [100] _)
            refine sd_iconst hC dX8_ramBy_105 ⟨by decide, by decide⟩ (?_ : Sd X 106 [(0, 18), (1, 0), (2, 0), (3, 0), (4, 0), (5, 0), (6, 100), (7, 0), (8, 0)] [0, 100] _)
            refine sd_iload hC dX8_ramBy_106 (by decide) (?_ : Sd X 108 [(0, 18), (1, 0), (2, 0), (3, 0), (4, 0), (5, 0), (6, 100), (7, 0), (8, 0)] [0, 0, 100] _)
            refine sd_iastore hC dX8_ramBy_108 (?_ : Sd X 109 [(0, 18), (1, 0), (2, 0), (3, 0), (4, 0), (5, 0), (6, 100), (7, 0), (8, 0)] [] _)
            refine sd_aload_n hC 18 dX8_ramBy_109 rfl (by decide) (by decide) (?_ : Sd X 110 [(0, 18), (1, 0), (2, 0), (3, 0), (4, 0), (5, 0), (6, 100), (7, 0), (8, 0)] [18] _)
            refine sd_iload hC dX8_ramBy_110 (by decide) (?_ : Sd X 112 [(0, 18), (1, 0), (2, 0), (3, 0), (4, 0), (5, 0), (6, 100), (7, 0), (8, 0)] [0, 18] _)
            refine sd_inv0 (τ := []) (τr := [0]) (ci := 8) (q := (RX8, TX8, 18)) hC WG (M_X8_grant _) rfl rfl rfl rfl  rfl rfl wl_3_225 wl_3_227 wp_34 wl_1_1 wl_3_228 hd_X8_grant (by rw [e3]; decide) (by decide) dX8_ramBy_112 (?_ : Sd X 115 [(0, 18), (1, 0), (2, 0), (3, 0), (4, 0), (5, 0), (6, 100), (7, 0), (8, 0)] [0] _)
            exact sd_ireturn hC hT dX8_ramBy_115
          · exact Sd.weak (by decide) (S_44)
  · refine sd_aload_n hC 18 dX8_ramBy_8 rfl (by decide) (by decide) (?_ : Sd X 9 [(0, 18), (1, 0), (2, 0), (3, 0), (4, 0), (5, 0)] [18] _)
    refine sd_iconst hC dX8_ramBy_9 ⟨by decide, by decide⟩ (?_ : Sd X 10 [(0, 18), (1, 0), (2, 0), (3, 0), (4, 0), (5, 0)] [0, 18] _)
    refine sd_inv0 (τ := []) (τr := [0]) (ci := 8) (q := (RX8, TX8, 18)) hC WG (M_X8_refuse _) rfl rfl rfl rfl  rfl rfl wl_2_175 wl_2_177 wp_1 wl_1_1 wl_2_178 hd_X8_refuse (by rw [e3]; decide) (by decide) dX8_ramBy_10 (?_ : Sd X 13 [(0, 18), (1, 0), (2, 0), (3, 0), (4, 0), (5, 0)] [0] _)
    exact sd_ireturn hC hT dX8_ramBy_13
theorem hd_X8_saves : yX8_saves.cls ≠ "java/lang/invoke/MethodHandle" ∧ yX8_saves.cls ≠ "java/lang/invoke/VarHandle" ∧ (parseMethodDescriptor yX8_saves.desc).map (fun d => d.parameters.length) = some 3 := by decide +kernel
set_option maxRecDepth 100000 in
set_option maxHeartbeats 4000000 in
theorem M_X8_saves (l : Launch) : Mt l yX8_saves (Cond.code yX8_saves cX8_saves 4 (some .int) :: WALL) { frames := 6, cells := 0, slots := 0, locals := 152 } [18, 0, 0, 0] (some 0) T_X8_saves := by
  refine Mt.mk (B := E_X8_saves) (by decide +kernel) (by decide) (fun _ _ _ hh => hh) ?_
  intro X Q e1 e2 e3 hC hN hT
  subst e1
  have hC : CF X cX8_saves RX8 WALL := hC
  have S_31 : Sd X 31 [(0, 18), (1, 0), (2, 0), (3, 0)] [] (B_X8_saves_31 Q) := by
    unfold B_X8_saves_31
    refine sd_aload_n hC 18 dX8_saves_31 rfl (by decide) (by decide) (?_ : Sd X 32 [(0, 18), (1, 0), (2, 0), (3, 0)] [18] _)
    refine sd_iconst hC dX8_saves_32 ⟨by decide, by decide⟩ (?_ : Sd X 33 [(0, 18), (1, 0), (2, 0), (3, 0)] [0, 18] _)
    refine sd_put hC (ci := 8) (j := 17) (C := RX8) (T := TX8) (N := 18) tyX8 tyX8_ok nmX8 rfl rfl (by decide) in_X8 rfl rfl wl_2_125 dX8_saves_33 (?_ : Sd X 36 [(0, 18), (1, 0), (2, 0), (3, 0)] [] _)
    refine sd_sipush hC dX8_saves_36 (by decide) (?_ : Sd X 39 [(0, 18), (1, 0), (2, 0), (3, 0)] [0] _)
    exact sd_ireturn hC hT dX8_saves_39
  refine (?_ : Sd X 0 [(0, 18), (1, 0), (2, 0), (3, 0)] [] (E_X8_saves Q))
  unfold E_X8_saves
  refine sd_aload_n hC 18 dX8_saves_0 rfl (by decide) (by decide) (?_ : Sd X 1 [(0, 18), (1, 0), (2, 0), (3, 0)] [18] _)
  refine sd_iload_n hC dX8_saves_1 rfl (by decide) (?_ : Sd X 2 [(0, 18), (1, 0), (2, 0), (3, 0)] [0, 18] _)
  refine sd_inv0 (τ := []) (τr := [0]) (ci := 8) (q := (RX8, TX8, 18)) hC WG (M_X8_isGate _) rfl rfl rfl rfl  rfl rfl wl_4_2 wl_4_4 wp_35 wl_1_1 wl_4_5 hd_X8_isGate (by rw [e3]; decide) (by decide) dX8_saves_2 (?_ : Sd X 5 [(0, 18), (1, 0), (2, 0), (3, 0)] [0] _)
  refine sd_if_ne (tgt := 17) hC dX8_saves_5 rfl (?_ : Sd X 17 [(0, 18), (1, 0), (2, 0), (3, 0)] [] _) (?_ : Sd X 8 [(0, 18), (1, 0), (2, 0), (3, 0)] [] _)
  · refine sd_iload_n hC dX8_saves_17 rfl (by decide) (?_ : Sd X 18 [(0, 18), (1, 0), (2, 0), (3, 0)] [0] _)
    refine sd_invs (τ := []) (τs := [0]) hC false "" WG (M_X8_isSize _) rfl rfl rfl rfl wl_4_226 wl_4_227 wl_1_1 wl_4_228 hd_X8_isSize (by rw [e3]; decide) (by decide) dX8_saves_18 (?_ : Sd X 21 [(0, 18), (1, 0), (2, 0), (3, 0)] [0] _)
    refine sd_if_eq (tgt := 31) hC dX8_saves_21 rfl (?_ : Sd X 31 [(0, 18), (1, 0), (2, 0), (3, 0)] [] _) (?_ : Sd X 24 [(0, 18), (1, 0), (2, 0), (3, 0)] [] _)
    · exact Sd.weak (by decide) (S_31)
    · refine sd_iload_n hC dX8_saves_24 rfl (by decide) (?_ : Sd X 25 [(0, 18), (1, 0), (2, 0), (3, 0)] [0] _)
      refine sd_invs (τ := []) (τs := [0]) hC false "" WG (M_X8_isSize _) rfl rfl rfl rfl wl_4_226 wl_4_227 wl_1_1 wl_4_228 hd_X8_isSize (by rw [e3]; decide) (by decide) dX8_saves_25 (?_ : Sd X 28 [(0, 18), (1, 0), (2, 0), (3, 0)] [0] _)
      refine sd_if_ne (tgt := 40) hC dX8_saves_28 rfl (?_ : Sd X 40 [(0, 18), (1, 0), (2, 0), (3, 0)] [] _) (?_ : Sd X 31 [(0, 18), (1, 0), (2, 0), (3, 0)] [] _)
      · refine sd_aload_n hC 18 dX8_saves_40 rfl (by decide) (by decide) (?_ : Sd X 41 [(0, 18), (1, 0), (2, 0), (3, 0)] [18] _)
        refine sd_aload_n hC 18 dX8_saves_41 rfl (by decide) (by decide) (?_ : Sd X 42 [(0, 18), (1, 0), (2, 0), (3, 0)] [18, 18] _)
        refine sd_iload_n hC dX8_saves_42 rfl (by decide) (?_ : Sd X 43 [(0, 18), (1, 0), (2, 0), (3, 0)] [0, 18, 18] _)
        refine sd_iload_n hC dX8_saves_43 rfl (by decide) (?_ : Sd X 44 [(0, 18), (1, 0), (2, 0), (3, 0)] [0, 0, 18, 18] _)
        refine sd_iload_n hC dX8_saves_44 rfl (by decide) (?_ : Sd X 45 [(0, 18), (1, 0), (2, 0), (3, 0)] [0, 0, 0, 18, 18] _)
        refine sd_inv0 (τ := [18]) (τr := [0, 0, 0]) (ci := 8) (q := (RX8, TX8, 18)) hC WG (M_X8_savingOf _) rfl rfl rfl rfl  rfl rfl wl_4_229 wl_4_231 wp_58 wl_1_1 wl_4_232 hd_X8_savingOf (by rw [e3]; decide) (by decide) dX8_saves_45 (?_ : Sd X 48 [(0, 18), (1, 0), (2, 0), (3, 0)] [0, 18] _)
        refine sd_inv0 (τ := []) (τr := [0]) (ci := 8) (q := (RX8, TX8, 18)) hC WG (M_X8_grant _) rfl rfl rfl rfl  rfl rfl wl_3_225 wl_3_227 wp_34 wl_1_1 wl_3_228 hd_X8_grant (by rw [e3]; decide) (by decide) dX8_saves_48 (?_ : Sd X 51 [(0, 18), (1, 0), (2, 0), (3, 0)] [0] _)
        exact sd_ireturn hC hT dX8_saves_51
      · exact Sd.weak (by decide) (S_31)
  · refine sd_aload_n hC 18 dX8_saves_8 rfl (by decide) (by decide) (?_ : Sd X 9 [(0, 18), (1, 0), (2, 0), (3, 0)] [18] _)
    refine sd_iconst hC dX8_saves_9 ⟨by decide, by decide⟩ (?_ : Sd X 10 [(0, 18), (1, 0), (2, 0), (3, 0)] [0, 18] _)
    refine sd_put hC (ci := 8) (j := 17) (C := RX8) (T := TX8) (N := 18) tyX8 tyX8_ok nmX8 rfl rfl (by decide) in_X8 rfl rfl wl_2_125 dX8_saves_10 (?_ : Sd X 13 [(0, 18), (1, 0), (2, 0), (3, 0)] [] _)
    refine sd_sipush hC dX8_saves_13 (by decide) (?_ : Sd X 16 [(0, 18), (1, 0), (2, 0), (3, 0)] [0] _)
    exact sd_ireturn hC hT dX8_saves_16
theorem wl_2_83 : Cond.fieldLink RX8 114 "NarrowRings$Acts" "count" "I" ∈ WALL := tb2 (List.mem_of_getElem? (i := 83) rfl) rfl
theorem hd_X8_size : yX8_size.cls ≠ "java/lang/invoke/MethodHandle" ∧ yX8_size.cls ≠ "java/lang/invoke/VarHandle" ∧ (parseMethodDescriptor yX8_size.desc).map (fun d => d.parameters.length) = some 1 := by decide +kernel
set_option maxRecDepth 100000 in
set_option maxHeartbeats 4000000 in
theorem M_X8_size (l : Launch) : Mt l yX8_size (Cond.code yX8_size cX8_size 2 (some .int) :: WALL) { frames := 0, cells := 0, slots := 0, locals := 0 } [18, 0] (some 0) T_X8_size := by
  refine Mt.mk (B := E_X8_size) (by decide +kernel) (by decide) (fun _ _ _ hh => hh) ?_
  intro X Q e1 e2 e3 hC hN hT
  subst e1
  have hC : CF X cX8_size RX8 WALL := hC
  refine (?_ : Sd X 0 [(0, 18), (1, 0)] [] (E_X8_size Q))
  unfold E_X8_size
  refine sd_iload_n hC dX8_size_0 rfl (by decide) (?_ : Sd X 1 [(0, 18), (1, 0)] [0] _)
  refine sd_tsw (td := 118) hC dX8_size_1 rfl rfl ?_ (?_ : Sd X 118 [(0, 18), (1, 0)] [] _)
  · intro j kj hj
    match j, hj with
    | 0, hj =>
      cases hj
      refine ⟨_, 52, rfl, rfl, (?_ : Sd X 52 [(0, 18), (1, 0)] [] _)⟩
      refine sd_aload_n hC 18 dX8_size_52 rfl (by decide) (by decide) (?_ : Sd X 53 [(0, 18), (1, 0)] [18] _)
      refine sd_get hC (ci := 8) (j := 2) (C := RX8) (T := TX8) (N := 18) rfl rfl (by decide) in_X8 wl_2_110 dX8_size_53 (?_ : Sd X 56 [(0, 18), (1, 0)] [11] _)
      refine sd_get hC (ci := 1) (j := 0) (C := RX1) (T := TX1) (N := 12) rfl rfl (by decide) in_X1 wl_1_79 dX8_size_56 (?_ : Sd X 59 [(0, 18), (1, 0)] [0] _)
      exact sd_ireturn hC hT dX8_size_59
    | 1, hj =>
      cases hj
      refine ⟨_, 60, rfl, rfl, (?_ : Sd X 60 [(0, 18), (1, 0)] [] _)⟩
      refine sd_aload_n hC 18 dX8_size_60 rfl (by decide) (by decide) (?_ : Sd X 61 [(0, 18), (1, 0)] [18] _)
      refine sd_get hC (ci := 8) (j := 2) (C := RX8) (T := TX8) (N := 18) rfl rfl (by decide) in_X8 wl_2_110 dX8_size_61 (?_ : Sd X 64 [(0, 18), (1, 0)] [11] _)
      refine sd_get hC (ci := 1) (j := 1) (C := RX1) (T := TX1) (N := 12) rfl rfl (by decide) in_X1 wl_1_87 dX8_size_64 (?_ : Sd X 67 [(0, 18), (1, 0)] [0] _)
      exact sd_ireturn hC hT dX8_size_67
    | 2, hj =>
      cases hj
      refine ⟨_, 68, rfl, rfl, (?_ : Sd X 68 [(0, 18), (1, 0)] [] _)⟩
      refine sd_aload_n hC 18 dX8_size_68 rfl (by decide) (by decide) (?_ : Sd X 69 [(0, 18), (1, 0)] [18] _)
      refine sd_get hC (ci := 8) (j := 2) (C := RX8) (T := TX8) (N := 18) rfl rfl (by decide) in_X8 wl_2_110 dX8_size_69 (?_ : Sd X 72 [(0, 18), (1, 0)] [11] _)
      refine sd_get hC (ci := 1) (j := 2) (C := RX1) (T := TX1) (N := 12) rfl rfl (by decide) in_X1 wl_1_91 dX8_size_72 (?_ : Sd X 75 [(0, 18), (1, 0)] [0] _)
      exact sd_ireturn hC hT dX8_size_75
    | 3, hj =>
      cases hj
      refine ⟨_, 76, rfl, rfl, (?_ : Sd X 76 [(0, 18), (1, 0)] [] _)⟩
      refine sd_aload_n hC 18 dX8_size_76 rfl (by decide) (by decide) (?_ : Sd X 77 [(0, 18), (1, 0)] [18] _)
      refine sd_get hC (ci := 8) (j := 2) (C := RX8) (T := TX8) (N := 18) rfl rfl (by decide) in_X8 wl_2_110 dX8_size_77 (?_ : Sd X 80 [(0, 18), (1, 0)] [11] _)
      refine sd_get hC (ci := 1) (j := 3) (C := RX1) (T := TX1) (N := 12) rfl rfl (by decide) in_X1 wl_1_94 dX8_size_80 (?_ : Sd X 83 [(0, 18), (1, 0)] [0] _)
      exact sd_ireturn hC hT dX8_size_83
    | 4, hj =>
      cases hj
      refine ⟨_, 84, rfl, rfl, (?_ : Sd X 84 [(0, 18), (1, 0)] [] _)⟩
      refine sd_aload_n hC 18 dX8_size_84 rfl (by decide) (by decide) (?_ : Sd X 85 [(0, 18), (1, 0)] [18] _)
      refine sd_get hC (ci := 8) (j := 2) (C := RX8) (T := TX8) (N := 18) rfl rfl (by decide) in_X8 wl_2_110 dX8_size_85 (?_ : Sd X 88 [(0, 18), (1, 0)] [11] _)
      refine sd_get hC (ci := 1) (j := 4) (C := RX1) (T := TX1) (N := 12) rfl rfl (by decide) in_X1 wl_1_98 dX8_size_88 (?_ : Sd X 91 [(0, 18), (1, 0)] [0] _)
      exact sd_ireturn hC hT dX8_size_91
    | 5, hj =>
      cases hj
      refine ⟨_, 92, rfl, rfl, (?_ : Sd X 92 [(0, 18), (1, 0)] [] _)⟩
      refine sd_aload_n hC 18 dX8_size_92 rfl (by decide) (by decide) (?_ : Sd X 93 [(0, 18), (1, 0)] [18] _)
      refine sd_get hC (ci := 8) (j := 9) (C := RX8) (T := TX8) (N := 18) rfl rfl (by decide) in_X8 wl_2_117 dX8_size_93 (?_ : Sd X 96 [(0, 18), (1, 0)] [12] _)
      refine sd_get hC (ci := 2) (j := 0) (C := RX2) (T := TX2) (N := 10) rfl rfl (by decide) in_X2 wl_2_37 dX8_size_96 (?_ : Sd X 99 [(0, 18), (1, 0)] [0] _)
      exact sd_ireturn hC hT dX8_size_99
    | 6, hj =>
      cases hj
      refine ⟨_, 100, rfl, rfl, (?_ : Sd X 100 [(0, 18), (1, 0)] [] _)⟩
      refine sd_aload_n hC 18 dX8_size_100 rfl (by decide) (by decide) (?_ : Sd X 101 [(0, 18), (1, 0)] [18] _)
      refine sd_get hC (ci := 8) (j := 11) (C := RX8) (T := TX8) (N := 18) rfl rfl (by decide) in_X8 wl_2_119 dX8_size_101 (?_ : Sd X 104 [(0, 18), (1, 0)] [0] _)
      exact sd_ireturn hC hT dX8_size_104
    | 7, hj =>
      cases hj
      refine ⟨_, 105, rfl, rfl, (?_ : Sd X 105 [(0, 18), (1, 0)] [] _)⟩
      refine sd_aload_n hC 18 dX8_size_105 rfl (by decide) (by decide) (?_ : Sd X 106 [(0, 18), (1, 0)] [18] _)
      refine sd_get hC (ci := 8) (j := 12) (C := RX8) (T := TX8) (N := 18) rfl rfl (by decide) in_X8 wl_2_120 dX8_size_106 (?_ : Sd X 109 [(0, 18), (1, 0)] [10] _)
      refine sd_get hC (ci := 0) (j := 0) (C := RX0) (T := TX0) (N := 2) rfl rfl (by decide) in_X0 wl_2_83 dX8_size_109 (?_ : Sd X 112 [(0, 18), (1, 0)] [0] _)
      exact sd_ireturn hC hT dX8_size_112
    | 8, hj =>
      cases hj
      refine ⟨_, 113, rfl, rfl, (?_ : Sd X 113 [(0, 18), (1, 0)] [] _)⟩
      refine sd_aload_n hC 18 dX8_size_113 rfl (by decide) (by decide) (?_ : Sd X 114 [(0, 18), (1, 0)] [18] _)
      refine sd_get hC (ci := 8) (j := 1) (C := RX8) (T := TX8) (N := 18) rfl rfl (by decide) in_X8 wl_2_109 dX8_size_114 (?_ : Sd X 117 [(0, 18), (1, 0)] [0] _)
      exact sd_ireturn hC hT dX8_size_117
    | j + 9, hj => exact absurd hj (by simp)
  · refine sd_iconst hC dX8_size_118 ⟨by decide, by decide⟩ (?_ : Sd X 119 [(0, 18), (1, 0)] [0] _)
    exact sd_ireturn hC hT dX8_size_119
theorem hd_X8_stand : yX8_stand.cls ≠ "java/lang/invoke/MethodHandle" ∧ yX8_stand.cls ≠ "java/lang/invoke/VarHandle" ∧ (parseMethodDescriptor yX8_stand.desc).map (fun d => d.parameters.length) = some 0 := by decide +kernel
set_option maxRecDepth 100000 in
set_option maxHeartbeats 4000000 in
theorem M_X8_stand (l : Launch) : Mt l yX8_stand (Cond.code yX8_stand cX8_stand 3 (some .int) :: WALL) { frames := 1, cells := 0, slots := 0, locals := 24 } [18] (some 0) T_X8_stand := by
  refine Mt.mk (B := E_X8_stand) (by decide +kernel) (by decide) (fun _ _ _ hh => hh) ?_
  intro X Q e1 e2 e3 hC hN hT
  subst e1
  have hC : CF X cX8_stand RX8 WALL := hC
  have S_49 : ∀ (k17 : tK), Sd X 17 [(0, 18), (1, 0), (2, 0)] [] k17 → Sd X 49 [(0, 18), (1, 0), (2, 0)] [] (B_X8_stand_49 Q k17) := by
    intro k17 h17
    unfold B_X8_stand_49
    refine sd_iinc (Γ' := [(0, 18), (1, 0), (2, 0)]) hC dX8_stand_49 (by decide) (by rw [e2]; decide) (by decide) (?_ : Sd X 52 [(0, 18), (1, 0), (2, 0)] [] _)
    refine sd_goto (tgt := 17) hC dX8_stand_52 rfl (?_ : Sd X 17 [(0, 18), (1, 0), (2, 0)] [] _)
    exact Sd.weak (by decide) h17
  have S_17 : Sd X 17 [(0, 18), (1, 0), (2, 0)] [] (L_X8_stand_17 Q) := by
    unfold L_X8_stand_17
    refine Sd.loop (fun k17 h17 => ?_)
    refine sd_iload_n hC dX8_stand_17 rfl (by decide) (?_ : Sd X 18 [(0, 18), (1, 0), (2, 0)] [0] _)
    refine sd_aload_n hC 18 dX8_stand_18 rfl (by decide) (by decide) (?_ : Sd X 19 [(0, 18), (1, 0), (2, 0)] [18, 0] _)
    refine sd_get hC (ci := 8) (j := 2) (C := RX8) (T := TX8) (N := 18) rfl rfl (by decide) in_X8 wl_2_110 dX8_stand_19 (?_ : Sd X 22 [(0, 18), (1, 0), (2, 0)] [11, 0] _)
    refine sd_get hC (ci := 1) (j := 0) (C := RX1) (T := TX1) (N := 12) rfl rfl (by decide) in_X1 wl_1_79 dX8_stand_22 (?_ : Sd X 25 [(0, 18), (1, 0), (2, 0)] [0, 0] _)
    refine sd_icmp_ge (tgt := 55) hC dX8_stand_25 rfl (?_ : Sd X 55 [(0, 18), (1, 0), (2, 0)] [] _) (?_ : Sd X 28 [(0, 18), (1, 0), (2, 0)] [] _)
    · refine sd_aload_n hC 18 dX8_stand_55 rfl (by decide) (by decide) (?_ : Sd X 56 [(0, 18), (1, 0), (2, 0)] [18] _)
      refine sd_iload_n hC dX8_stand_56 rfl (by decide) (?_ : Sd X 57 [(0, 18), (1, 0), (2, 0)] [0, 18] _)
      refine sd_inv0 (τ := []) (τr := [0]) (ci := 8) (q := (RX8, TX8, 18)) hC WG (M_X8_grant _) rfl rfl rfl rfl  rfl rfl wl_3_225 wl_3_227 wp_34 wl_1_1 wl_3_228 hd_X8_grant (by rw [e3]; decide) (by decide) dX8_stand_57 (?_ : Sd X 60 [(0, 18), (1, 0), (2, 0)] [0] _)
      exact sd_ireturn hC hT dX8_stand_60
    · refine sd_aload_n hC 18 dX8_stand_28 rfl (by decide) (by decide) (?_ : Sd X 29 [(0, 18), (1, 0), (2, 0)] [18] _)
      refine sd_get hC (ci := 8) (j := 2) (C := RX8) (T := TX8) (N := 18) rfl rfl (by decide) in_X8 wl_2_110 dX8_stand_29 (?_ : Sd X 32 [(0, 18), (1, 0), (2, 0)] [11] _)
      refine sd_iload_n hC dX8_stand_32 rfl (by decide) (?_ : Sd X 33 [(0, 18), (1, 0), (2, 0)] [0, 11] _)
      refine sd_inv0 (τ := []) (τr := [0]) (ci := 1) (q := (RX1, TX1, 12)) hC WG (M_X1_daysOf _) rfl rfl rfl rfl  rfl rfl wl_5_14 wl_5_15 wl_5_16 wl_1_2 wl_5_17 hd_X1_daysOf (by rw [e3]; decide) (by decide) dX8_stand_33 (?_ : Sd X 36 [(0, 18), (1, 0), (2, 0)] [0] _)
      refine sd_aload_n hC 18 dX8_stand_36 rfl (by decide) (by decide) (?_ : Sd X 37 [(0, 18), (1, 0), (2, 0)] [18, 0] _)
      refine sd_get hC (ci := 8) (j := 2) (C := RX8) (T := TX8) (N := 18) rfl rfl (by decide) in_X8 wl_2_110 dX8_stand_37 (?_ : Sd X 40 [(0, 18), (1, 0), (2, 0)] [11, 0] _)
      refine sd_iload_n hC dX8_stand_40 rfl (by decide) (?_ : Sd X 41 [(0, 18), (1, 0), (2, 0)] [0, 11, 0] _)
      refine sd_inv0 (τ := [0]) (τr := [0]) (ci := 1) (q := (RX1, TX1, 12)) hC WG (M_X1_daysOf _) rfl rfl rfl rfl  rfl rfl wl_5_14 wl_5_15 wl_5_16 wl_1_2 wl_5_17 hd_X1_daysOf (by rw [e3]; decide) (by decide) dX8_stand_41 (?_ : Sd X 44 [(0, 18), (1, 0), (2, 0)] [0, 0] _)
      refine sd_icmp_lt (tgt := 49) hC dX8_stand_44 rfl (?_ : Sd X 49 [(0, 18), (1, 0), (2, 0)] [] _) (?_ : Sd X 47 [(0, 18), (1, 0), (2, 0)] [] _)
      · exact Sd.weak (by decide) (S_49 k17 h17)
      · refine sd_iload_n hC dX8_stand_47 rfl (by decide) (?_ : Sd X 48 [(0, 18), (1, 0), (2, 0)] [0] _)
        refine sd_istore_n (Γ' := [(0, 18), (1, 0), (2, 0)]) hC dX8_stand_48 rfl (by rw [e2]; decide) (by decide) (?_ : Sd X 49 [(0, 18), (1, 0), (2, 0)] [] _)
        exact Sd.weak (by decide) (S_49 k17 h17)
  refine (?_ : Sd X 0 [(0, 18)] [] (E_X8_stand Q))
  unfold E_X8_stand
  refine sd_aload_n hC 18 dX8_stand_0 rfl (by decide) (by decide) (?_ : Sd X 1 [(0, 18)] [18] _)
  refine sd_inv0 (τ := []) (τr := []) (ci := 8) (q := (RX8, TX8, 18)) hC WG (M_X8_isCity _) rfl rfl rfl rfl  rfl rfl wl_4_99 wl_4_101 wp_43 wl_1_1 wl_4_102 hd_X8_isCity (by rw [e3]; decide) (by decide) dX8_stand_1 (?_ : Sd X 4 [(0, 18)] [0] _)
  refine sd_if_ne (tgt := 13) hC dX8_stand_4 rfl (?_ : Sd X 13 [(0, 18)] [] _) (?_ : Sd X 7 [(0, 18)] [] _)
  · refine sd_iconst hC dX8_stand_13 ⟨by decide, by decide⟩ (?_ : Sd X 14 [(0, 18)] [0] _)
    refine sd_istore_n (Γ' := [(0, 18), (1, 0)]) hC dX8_stand_14 rfl (by rw [e2]; decide) (by decide) (?_ : Sd X 15 [(0, 18), (1, 0)] [] _)
    refine sd_iconst hC dX8_stand_15 ⟨by decide, by decide⟩ (?_ : Sd X 16 [(0, 18), (1, 0)] [0] _)
    refine sd_istore_n (Γ' := [(0, 18), (1, 0), (2, 0)]) hC dX8_stand_16 rfl (by rw [e2]; decide) (by decide) (?_ : Sd X 17 [(0, 18), (1, 0), (2, 0)] [] _)
    exact Sd.weak (by decide) (S_17)
  · refine sd_aload_n hC 18 dX8_stand_7 rfl (by decide) (by decide) (?_ : Sd X 8 [(0, 18)] [18] _)
    refine sd_iconst hC dX8_stand_8 ⟨by decide, by decide⟩ (?_ : Sd X 9 [(0, 18)] [0, 18] _)
    refine sd_inv0 (τ := []) (τr := [0]) (ci := 8) (q := (RX8, TX8, 18)) hC WG (M_X8_refuse _) rfl rfl rfl rfl  rfl rfl wl_2_175 wl_2_177 wp_1 wl_1_1 wl_2_178 hd_X8_refuse (by rw [e3]; decide) (by decide) dX8_stand_9 (?_ : Sd X 12 [(0, 18)] [0] _)
    exact sd_ireturn hC hT dX8_stand_12
theorem wl_5_26 : Cond.methodLink RX8 278 yX5_gatesOf ∈ WALL := tb5 (List.mem_of_getElem? (i := 26) rfl) rfl
theorem wl_5_27 : Cond.instanceMethod yX5_gatesOf ∈ WALL := tb5 (List.mem_of_getElem? (i := 27) rfl) rfl
theorem wl_5_28 : Cond.selects RX5 yX5_gatesOf yX5_gatesOf ∈ WALL := tb5 (List.mem_of_getElem? (i := 28) rfl) rfl
theorem wl_5_29 : Cond.code yX5_gatesOf cX5_gatesOf 7 (some .int) ∈ WALL := tb5 (List.mem_of_getElem? (i := 29) rfl) rfl
theorem hd_X8_theft : yX8_theft.cls ≠ "java/lang/invoke/MethodHandle" ∧ yX8_theft.cls ≠ "java/lang/invoke/VarHandle" ∧ (parseMethodDescriptor yX8_theft.desc).map (fun d => d.parameters.length) = some 5 := by decide +kernel
set_option maxRecDepth 100000 in
set_option maxHeartbeats 4000000 in
theorem M_X8_theft (l : Launch) : Mt l yX8_theft (Cond.code yX8_theft cX8_theft 6 (some .int) :: WALL) { frames := 4, cells := 0, slots := 0, locals := 100 } [18, 0, 0, 0, 0, 0] (some 0) T_X8_theft := by
  refine Mt.mk (B := E_X8_theft) (by decide +kernel) (by decide) (fun _ _ _ hh => hh) ?_
  intro X Q e1 e2 e3 hC hN hT
  subst e1
  have hC : CF X cX8_theft RX8 WALL := hC
  have S_17 : Sd X 17 [(0, 18), (1, 0), (2, 0), (3, 0), (4, 0), (5, 0)] [] (B_X8_theft_17 Q) := by
    unfold B_X8_theft_17
    refine sd_aload_n hC 18 dX8_theft_17 rfl (by decide) (by decide) (?_ : Sd X 18 [(0, 18), (1, 0), (2, 0), (3, 0), (4, 0), (5, 0)] [18] _)
    refine sd_iconst hC dX8_theft_18 ⟨by decide, by decide⟩ (?_ : Sd X 19 [(0, 18), (1, 0), (2, 0), (3, 0), (4, 0), (5, 0)] [0, 18] _)
    refine sd_inv0 (τ := []) (τr := [0]) (ci := 8) (q := (RX8, TX8, 18)) hC WG (M_X8_refuse _) rfl rfl rfl rfl  rfl rfl wl_2_175 wl_2_177 wp_1 wl_1_1 wl_2_178 hd_X8_refuse (by rw [e3]; decide) (by decide) dX8_theft_19 (?_ : Sd X 22 [(0, 18), (1, 0), (2, 0), (3, 0), (4, 0), (5, 0)] [0] _)
    exact sd_ireturn hC hT dX8_theft_22
  have S_35 : Sd X 35 [(0, 18), (1, 0), (2, 0), (3, 0), (4, 0), (5, 0)] [] (B_X8_theft_35 Q) := by
    unfold B_X8_theft_35
    refine sd_aload_n hC 18 dX8_theft_35 rfl (by decide) (by decide) (?_ : Sd X 36 [(0, 18), (1, 0), (2, 0), (3, 0), (4, 0), (5, 0)] [18] _)
    refine sd_iconst hC dX8_theft_36 ⟨by decide, by decide⟩ (?_ : Sd X 37 [(0, 18), (1, 0), (2, 0), (3, 0), (4, 0), (5, 0)] [0, 18] _)
    refine sd_inv0 (τ := []) (τr := [0]) (ci := 8) (q := (RX8, TX8, 18)) hC WG (M_X8_refuse _) rfl rfl rfl rfl  rfl rfl wl_2_175 wl_2_177 wp_1 wl_1_1 wl_2_178 hd_X8_refuse (by rw [e3]; decide) (by decide) dX8_theft_37 (?_ : Sd X 40 [(0, 18), (1, 0), (2, 0), (3, 0), (4, 0), (5, 0)] [0] _)
    exact sd_ireturn hC hT dX8_theft_40
  have S_63 : Sd X 63 [(0, 18), (1, 0), (2, 0), (3, 0), (4, 0), (5, 0)] [] (B_X8_theft_63 Q) := by
    unfold B_X8_theft_63
    refine sd_aload_n hC 18 dX8_theft_63 rfl (by decide) (by decide) (?_ : Sd X 64 [(0, 18), (1, 0), (2, 0), (3, 0), (4, 0), (5, 0)] [18] _)
    refine sd_aload_n hC 18 dX8_theft_64 rfl (by decide) (by decide) (?_ : Sd X 65 [(0, 18), (1, 0), (2, 0), (3, 0), (4, 0), (5, 0)] [18, 18] _)
    refine sd_get hC (ci := 8) (j := 13) (C := RX8) (T := TX8) (N := 18) rfl rfl (by decide) in_X8 wl_2_121 dX8_theft_65 (?_ : Sd X 68 [(0, 18), (1, 0), (2, 0), (3, 0), (4, 0), (5, 0)] [15, 18] _)
    refine sd_aload_n hC 18 dX8_theft_68 rfl (by decide) (by decide) (?_ : Sd X 69 [(0, 18), (1, 0), (2, 0), (3, 0), (4, 0), (5, 0)] [18, 15, 18] _)
    refine sd_get hC (ci := 8) (j := 2) (C := RX8) (T := TX8) (N := 18) rfl rfl (by decide) in_X8 wl_2_110 dX8_theft_69 (?_ : Sd X 72 [(0, 18), (1, 0), (2, 0), (3, 0), (4, 0), (5, 0)] [11, 15, 18] _)
    refine sd_aload_n hC 18 dX8_theft_72 rfl (by decide) (by decide) (?_ : Sd X 73 [(0, 18), (1, 0), (2, 0), (3, 0), (4, 0), (5, 0)] [18, 11, 15, 18] _)
    refine sd_get hC (ci := 8) (j := 2) (C := RX8) (T := TX8) (N := 18) rfl rfl (by decide) in_X8 wl_2_110 dX8_theft_73 (?_ : Sd X 76 [(0, 18), (1, 0), (2, 0), (3, 0), (4, 0), (5, 0)] [11, 11, 15, 18] _)
    refine sd_iload_n hC dX8_theft_76 rfl (by decide) (?_ : Sd X 77 [(0, 18), (1, 0), (2, 0), (3, 0), (4, 0), (5, 0)] [0, 11, 11, 15, 18] _)
    refine sd_iload hC dX8_theft_77 (by decide) (?_ : Sd X 79 [(0, 18), (1, 0), (2, 0), (3, 0), (4, 0), (5, 0)] [0, 0, 11, 11, 15, 18] _)
    refine sd_inv0 (τ := [11, 15, 18]) (τr := [0, 0]) (ci := 1) (q := (RX1, TX1, 12)) hC WG (M_X1_thing _) rfl rfl rfl rfl  rfl rfl wl_4_35 wl_3_132 wl_3_133 wl_1_2 wl_3_134 hd_X1_thing (by rw [e3]; decide) (by decide) dX8_theft_79 (?_ : Sd X 82 [(0, 18), (1, 0), (2, 0), (3, 0), (4, 0), (5, 0)] [16, 11, 15, 18] _)
    refine sd_iload_n hC dX8_theft_82 rfl (by decide) (?_ : Sd X 83 [(0, 18), (1, 0), (2, 0), (3, 0), (4, 0), (5, 0)] [0, 16, 11, 15, 18] _)
    refine sd_bipush hC dX8_theft_83 (by decide) (?_ : Sd X 85 [(0, 18), (1, 0), (2, 0), (3, 0), (4, 0), (5, 0)] [0, 0, 16, 11, 15, 18] _)
    refine sd_imul hC dX8_theft_85 (?_ : Sd X 86 [(0, 18), (1, 0), (2, 0), (3, 0), (4, 0), (5, 0)] [0, 16, 11, 15, 18] _)
    refine sd_iload_n hC dX8_theft_86 rfl (by decide) (?_ : Sd X 87 [(0, 18), (1, 0), (2, 0), (3, 0), (4, 0), (5, 0)] [0, 0, 16, 11, 15, 18] _)
    refine sd_iadd hC dX8_theft_87 (?_ : Sd X 88 [(0, 18), (1, 0), (2, 0), (3, 0), (4, 0), (5, 0)] [0, 16, 11, 15, 18] _)
    refine sd_iload hC dX8_theft_88 (by decide) (?_ : Sd X 90 [(0, 18), (1, 0), (2, 0), (3, 0), (4, 0), (5, 0)] [0, 0, 16, 11, 15, 18] _)
    refine sd_inv0 (τ := [18]) (τr := [11, 16, 0, 0]) (ci := 5) (q := (RX5, TX5, 3)) hC WG (M_X5_gatesOf _) rfl rfl rfl rfl  rfl rfl wl_5_26 wl_5_27 wl_5_28 wl_1_9 wl_5_29 hd_X5_gatesOf (by rw [e3]; decide) (by decide) dX8_theft_90 (?_ : Sd X 93 [(0, 18), (1, 0), (2, 0), (3, 0), (4, 0), (5, 0)] [0, 18] _)
    refine sd_inv0 (τ := []) (τr := [0]) (ci := 8) (q := (RX8, TX8, 18)) hC WG (M_X8_grant _) rfl rfl rfl rfl  rfl rfl wl_3_225 wl_3_227 wp_34 wl_1_1 wl_3_228 hd_X8_grant (by rw [e3]; decide) (by decide) dX8_theft_93 (?_ : Sd X 96 [(0, 18), (1, 0), (2, 0), (3, 0), (4, 0), (5, 0)] [0] _)
    exact sd_ireturn hC hT dX8_theft_96
  refine (?_ : Sd X 0 [(0, 18), (1, 0), (2, 0), (3, 0), (4, 0), (5, 0)] [] (E_X8_theft Q))
  unfold E_X8_theft
  refine sd_aload_n hC 18 dX8_theft_0 rfl (by decide) (by decide) (?_ : Sd X 1 [(0, 18), (1, 0), (2, 0), (3, 0), (4, 0), (5, 0)] [18] _)
  refine sd_iload_n hC dX8_theft_1 rfl (by decide) (?_ : Sd X 2 [(0, 18), (1, 0), (2, 0), (3, 0), (4, 0), (5, 0)] [0, 18] _)
  refine sd_inv0 (τ := []) (τr := [0]) (ci := 8) (q := (RX8, TX8, 18)) hC WG (M_X8_isGood _) rfl rfl rfl rfl  rfl rfl wl_4_17 wl_4_19 wp_37 wl_1_1 wl_4_20 hd_X8_isGood (by rw [e3]; decide) (by decide) dX8_theft_2 (?_ : Sd X 5 [(0, 18), (1, 0), (2, 0), (3, 0), (4, 0), (5, 0)] [0] _)
  refine sd_if_eq (tgt := 17) hC dX8_theft_5 rfl (?_ : Sd X 17 [(0, 18), (1, 0), (2, 0), (3, 0), (4, 0), (5, 0)] [] _) (?_ : Sd X 8 [(0, 18), (1, 0), (2, 0), (3, 0), (4, 0), (5, 0)] [] _)
  · exact Sd.weak (by decide) (S_17)
  · refine sd_aload_n hC 18 dX8_theft_8 rfl (by decide) (by decide) (?_ : Sd X 9 [(0, 18), (1, 0), (2, 0), (3, 0), (4, 0), (5, 0)] [18] _)
    refine sd_iload_n hC dX8_theft_9 rfl (by decide) (?_ : Sd X 10 [(0, 18), (1, 0), (2, 0), (3, 0), (4, 0), (5, 0)] [0, 18] _)
    refine sd_iload_n hC dX8_theft_10 rfl (by decide) (?_ : Sd X 11 [(0, 18), (1, 0), (2, 0), (3, 0), (4, 0), (5, 0)] [0, 0, 18] _)
    refine sd_inv0 (τ := []) (τr := [0, 0]) (ci := 8) (q := (RX8, TX8, 18)) hC WG (M_X8_isSpot _) rfl rfl rfl rfl  rfl rfl wl_4_67 wl_4_69 wp_41 wl_1_1 wl_4_70 hd_X8_isSpot (by rw [e3]; decide) (by decide) dX8_theft_11 (?_ : Sd X 14 [(0, 18), (1, 0), (2, 0), (3, 0), (4, 0), (5, 0)] [0] _)
    refine sd_if_ne (tgt := 23) hC dX8_theft_14 rfl (?_ : Sd X 23 [(0, 18), (1, 0), (2, 0), (3, 0), (4, 0), (5, 0)] [] _) (?_ : Sd X 17 [(0, 18), (1, 0), (2, 0), (3, 0), (4, 0), (5, 0)] [] _)
    · refine sd_iload hC dX8_theft_23 (by decide) (?_ : Sd X 25 [(0, 18), (1, 0), (2, 0), (3, 0), (4, 0), (5, 0)] [0] _)
      refine sd_if_lt (tgt := 35) hC dX8_theft_25 rfl (?_ : Sd X 35 [(0, 18), (1, 0), (2, 0), (3, 0), (4, 0), (5, 0)] [] _) (?_ : Sd X 28 [(0, 18), (1, 0), (2, 0), (3, 0), (4, 0), (5, 0)] [] _)
      · exact Sd.weak (by decide) (S_35)
      · refine sd_iload hC dX8_theft_28 (by decide) (?_ : Sd X 30 [(0, 18), (1, 0), (2, 0), (3, 0), (4, 0), (5, 0)] [0] _)
        refine sd_bipush hC dX8_theft_30 (by decide) (?_ : Sd X 32 [(0, 18), (1, 0), (2, 0), (3, 0), (4, 0), (5, 0)] [0, 0] _)
        refine sd_icmp_le (tgt := 41) hC dX8_theft_32 rfl (?_ : Sd X 41 [(0, 18), (1, 0), (2, 0), (3, 0), (4, 0), (5, 0)] [] _) (?_ : Sd X 35 [(0, 18), (1, 0), (2, 0), (3, 0), (4, 0), (5, 0)] [] _)
        · refine sd_iload hC dX8_theft_41 (by decide) (?_ : Sd X 43 [(0, 18), (1, 0), (2, 0), (3, 0), (4, 0), (5, 0)] [0] _)
          refine sd_if_eq (tgt := 63) hC dX8_theft_43 rfl (?_ : Sd X 63 [(0, 18), (1, 0), (2, 0), (3, 0), (4, 0), (5, 0)] [] _) (?_ : Sd X 46 [(0, 18), (1, 0), (2, 0), (3, 0), (4, 0), (5, 0)] [] _)
          · exact Sd.weak (by decide) (S_63)
          · refine sd_aload_n hC 18 dX8_theft_46 rfl (by decide) (by decide) (?_ : Sd X 47 [(0, 18), (1, 0), (2, 0), (3, 0), (4, 0), (5, 0)] [18] _)
            refine sd_get hC (ci := 8) (j := 2) (C := RX8) (T := TX8) (N := 18) rfl rfl (by decide) in_X8 wl_2_110 dX8_theft_47 (?_ : Sd X 50 [(0, 18), (1, 0), (2, 0), (3, 0), (4, 0), (5, 0)] [11] _)
            refine sd_iload_n hC dX8_theft_50 rfl (by decide) (?_ : Sd X 51 [(0, 18), (1, 0), (2, 0), (3, 0), (4, 0), (5, 0)] [0, 11] _)
            refine sd_inv0 (τ := []) (τr := [0]) (ci := 1) (q := (RX1, TX1, 12)) hC WG (M_X1_canCut _) rfl rfl rfl rfl  rfl rfl wl_4_31 wl_4_32 wl_4_33 wl_1_2 wl_4_34 hd_X1_canCut (by rw [e3]; decide) (by decide) dX8_theft_51 (?_ : Sd X 54 [(0, 18), (1, 0), (2, 0), (3, 0), (4, 0), (5, 0)] [0] _)
            refine sd_if_ne (tgt := 63) hC dX8_theft_54 rfl (?_ : Sd X 63 [(0, 18), (1, 0), (2, 0), (3, 0), (4, 0), (5, 0)] [] _) (?_ : Sd X 57 [(0, 18), (1, 0), (2, 0), (3, 0), (4, 0), (5, 0)] [] _)
            · exact Sd.weak (by decide) (S_63)
            · refine sd_aload_n hC 18 dX8_theft_57 rfl (by decide) (by decide) (?_ : Sd X 58 [(0, 18), (1, 0), (2, 0), (3, 0), (4, 0), (5, 0)] [18] _)
              refine sd_iconst hC dX8_theft_58 ⟨by decide, by decide⟩ (?_ : Sd X 59 [(0, 18), (1, 0), (2, 0), (3, 0), (4, 0), (5, 0)] [0, 18] _)
              refine sd_inv0 (τ := []) (τr := [0]) (ci := 8) (q := (RX8, TX8, 18)) hC WG (M_X8_refuse _) rfl rfl rfl rfl  rfl rfl wl_2_175 wl_2_177 wp_1 wl_1_1 wl_2_178 hd_X8_refuse (by rw [e3]; decide) (by decide) dX8_theft_59 (?_ : Sd X 62 [(0, 18), (1, 0), (2, 0), (3, 0), (4, 0), (5, 0)] [0] _)
              exact sd_ireturn hC hT dX8_theft_62
        · exact Sd.weak (by decide) (S_35)
    · exact Sd.weak (by decide) (S_17)
theorem wl_2_47 : Cond.fieldLink RX8 238 "NarrowRings$Day" "paid" "[I" ∈ WALL := tb2 (List.mem_of_getElem? (i := 47) rfl) rfl
theorem hd_X8_tolls : yX8_tolls.cls ≠ "java/lang/invoke/MethodHandle" ∧ yX8_tolls.cls ≠ "java/lang/invoke/VarHandle" ∧ (parseMethodDescriptor yX8_tolls.desc).map (fun d => d.parameters.length) = some 1 := by decide +kernel
set_option maxRecDepth 100000 in
set_option maxHeartbeats 4000000 in
theorem M_X8_tolls (l : Launch) : Mt l yX8_tolls (Cond.code yX8_tolls cX8_tolls 2 (some .int) :: WALL) { frames := 2, cells := 0, slots := 0, locals := 42 } [18, 0] (some 0) T_X8_tolls := by
  refine Mt.mk (B := E_X8_tolls) (by decide +kernel) (by decide) (fun _ _ _ hh => hh) ?_
  intro X Q e1 e2 e3 hC hN hT
  subst e1
  have hC : CF X cX8_tolls RX8 WALL := hC
  refine (?_ : Sd X 0 [(0, 18), (1, 0)] [] (E_X8_tolls Q))
  unfold E_X8_tolls
  refine sd_aload_n hC 18 dX8_tolls_0 rfl (by decide) (by decide) (?_ : Sd X 1 [(0, 18), (1, 0)] [18] _)
  refine sd_iload_n hC dX8_tolls_1 rfl (by decide) (?_ : Sd X 2 [(0, 18), (1, 0)] [0, 18] _)
  refine sd_inv0 (τ := []) (τr := [0]) (ci := 8) (q := (RX8, TX8, 18)) hC WG (M_X8_isGate _) rfl rfl rfl rfl  rfl rfl wl_4_2 wl_4_4 wp_35 wl_1_1 wl_4_5 hd_X8_isGate (by rw [e3]; decide) (by decide) dX8_tolls_2 (?_ : Sd X 5 [(0, 18), (1, 0)] [0] _)
  refine sd_if_ne (tgt := 14) hC dX8_tolls_5 rfl (?_ : Sd X 14 [(0, 18), (1, 0)] [] _) (?_ : Sd X 8 [(0, 18), (1, 0)] [] _)
  · refine sd_aload_n hC 18 dX8_tolls_14 rfl (by decide) (by decide) (?_ : Sd X 15 [(0, 18), (1, 0)] [18] _)
    refine sd_aload_n hC 18 dX8_tolls_15 rfl (by decide) (by decide) (?_ : Sd X 16 [(0, 18), (1, 0)] [18, 18] _)
    refine sd_get hC (ci := 8) (j := 9) (C := RX8) (T := TX8) (N := 18) rfl rfl (by decide) in_X8 wl_2_117 dX8_tolls_16 (?_ : Sd X 19 [(0, 18), (1, 0)] [12, 18] _)
    refine sd_get hC (ci := 2) (j := 5) (C := RX2) (T := TX2) (N := 10) rfl rfl (by decide) in_X2 wl_2_47 dX8_tolls_19 (?_ : Sd X 22 [(0, 18), (1, 0)] [100, 18] _)
    refine sd_iload_n hC dX8_tolls_22 rfl (by decide) (?_ : Sd X 23 [(0, 18), (1, 0)] [0, 100, 18] _)
    refine sd_iaload hC dX8_tolls_23 (?_ : Sd X 24 [(0, 18), (1, 0)] [0, 18] _)
    refine sd_inv0 (τ := []) (τr := [0]) (ci := 8) (q := (RX8, TX8, 18)) hC WG (M_X8_grant _) rfl rfl rfl rfl  rfl rfl wl_3_225 wl_3_227 wp_34 wl_1_1 wl_3_228 hd_X8_grant (by rw [e3]; decide) (by decide) dX8_tolls_24 (?_ : Sd X 27 [(0, 18), (1, 0)] [0] _)
    exact sd_ireturn hC hT dX8_tolls_27
  · refine sd_aload_n hC 18 dX8_tolls_8 rfl (by decide) (by decide) (?_ : Sd X 9 [(0, 18), (1, 0)] [18] _)
    refine sd_iconst hC dX8_tolls_9 ⟨by decide, by decide⟩ (?_ : Sd X 10 [(0, 18), (1, 0)] [0, 18] _)
    refine sd_inv0 (τ := []) (τr := [0]) (ci := 8) (q := (RX8, TX8, 18)) hC WG (M_X8_refuse _) rfl rfl rfl rfl  rfl rfl wl_2_175 wl_2_177 wp_1 wl_1_1 wl_2_178 hd_X8_refuse (by rw [e3]; decide) (by decide) dX8_tolls_10 (?_ : Sd X 13 [(0, 18), (1, 0)] [0] _)
    exact sd_ireturn hC hT dX8_tolls_13
theorem hd_X8_trouble : yX8_trouble.cls ≠ "java/lang/invoke/MethodHandle" ∧ yX8_trouble.cls ≠ "java/lang/invoke/VarHandle" ∧ (parseMethodDescriptor yX8_trouble.desc).map (fun d => d.parameters.length) = some 0 := by decide +kernel
set_option maxRecDepth 100000 in
set_option maxHeartbeats 4000000 in
theorem M_X8_trouble (l : Launch) : Mt l yX8_trouble (Cond.code yX8_trouble cX8_trouble 1 (some .int) :: WALL) { frames := 0, cells := 0, slots := 0, locals := 0 } [18] (some 0) T_X8_trouble := by
  refine Mt.mk (B := E_X8_trouble) (by decide +kernel) (by decide) (fun _ _ _ hh => hh) ?_
  intro X Q e1 e2 e3 hC hN hT
  subst e1
  have hC : CF X cX8_trouble RX8 WALL := hC
  refine (?_ : Sd X 0 [(0, 18)] [] (E_X8_trouble Q))
  unfold E_X8_trouble
  refine sd_aload_n hC 18 dX8_trouble_0 rfl (by decide) (by decide) (?_ : Sd X 1 [(0, 18)] [18] _)
  refine sd_get hC (ci := 8) (j := 17) (C := RX8) (T := TX8) (N := 18) rfl rfl (by decide) in_X8 wl_2_125 dX8_trouble_1 (?_ : Sd X 4 [(0, 18)] [0] _)
  exact sd_ireturn hC hT dX8_trouble_4
theorem wl_5_77 : Cond.methodLink RX8 290 yX0_takeBack ∈ WALL := tb5 (List.mem_of_getElem? (i := 77) rfl) rfl
theorem wl_5_78 : Cond.instanceMethod yX0_takeBack ∈ WALL := tb5 (List.mem_of_getElem? (i := 78) rfl) rfl
theorem wl_5_79 : Cond.selects RX0 yX0_takeBack yX0_takeBack ∈ WALL := tb5 (List.mem_of_getElem? (i := 79) rfl) rfl
theorem wl_5_80 : Cond.code yX0_takeBack cX0_takeBack 3 none ∈ WALL := tb5 (List.mem_of_getElem? (i := 80) rfl) rfl
theorem hd_X8_undo : yX8_undo.cls ≠ "java/lang/invoke/MethodHandle" ∧ yX8_undo.cls ≠ "java/lang/invoke/VarHandle" ∧ (parseMethodDescriptor yX8_undo.desc).map (fun d => d.parameters.length) = some 0 := by decide +kernel
set_option maxRecDepth 100000 in
set_option maxHeartbeats 4000000 in
theorem M_X8_undo (l : Launch) : Mt l yX8_undo (Cond.code yX8_undo cX8_undo 1 (some .boolean) :: WALL) { frames := 6, cells := 0, slots := 0, locals := 145 } [18] (some 0) T_X8_undo := by
  refine Mt.mk (B := E_X8_undo) (by decide +kernel) (by decide) (fun _ _ _ hh => hh) ?_
  intro X Q e1 e2 e3 hC hN hT
  subst e1
  have hC : CF X cX8_undo RX8 WALL := hC
  refine (?_ : Sd X 0 [(0, 18)] [] (E_X8_undo Q))
  unfold E_X8_undo
  refine sd_aload_n hC 18 dX8_undo_0 rfl (by decide) (by decide) (?_ : Sd X 1 [(0, 18)] [18] _)
  refine sd_get hC (ci := 8) (j := 12) (C := RX8) (T := TX8) (N := 18) rfl rfl (by decide) in_X8 wl_2_120 dX8_undo_1 (?_ : Sd X 4 [(0, 18)] [10] _)
  refine sd_get hC (ci := 0) (j := 0) (C := RX0) (T := TX0) (N := 2) rfl rfl (by decide) in_X0 wl_2_83 dX8_undo_4 (?_ : Sd X 7 [(0, 18)] [0] _)
  refine sd_if_ne (tgt := 17) hC dX8_undo_7 rfl (?_ : Sd X 17 [(0, 18)] [] _) (?_ : Sd X 10 [(0, 18)] [] _)
  · refine sd_aload_n hC 18 dX8_undo_17 rfl (by decide) (by decide) (?_ : Sd X 18 [(0, 18)] [18] _)
    refine sd_get hC (ci := 8) (j := 12) (C := RX8) (T := TX8) (N := 18) rfl rfl (by decide) in_X8 wl_2_120 dX8_undo_18 (?_ : Sd X 21 [(0, 18)] [10] _)
    refine sd_aload_n hC 18 dX8_undo_21 rfl (by decide) (by decide) (?_ : Sd X 22 [(0, 18)] [18, 10] _)
    refine sd_get hC (ci := 8) (j := 2) (C := RX8) (T := TX8) (N := 18) rfl rfl (by decide) in_X8 wl_2_110 dX8_undo_22 (?_ : Sd X 25 [(0, 18)] [11, 10] _)
    refine sd_inv0v (τ := []) (τr := [11]) (ci := 0) (q := (RX0, TX0, 2)) hC WG (M_X0_takeBack _) rfl rfl rfl rfl  rfl rfl wl_5_77 wl_5_78 wl_5_79 wl_1_8 wl_5_80 hd_X0_takeBack (by rw [e3]; decide) (by decide) dX8_undo_25 (?_ : Sd X 28 [(0, 18)] [] _)
    refine sd_aload_n hC 18 dX8_undo_28 rfl (by decide) (by decide) (?_ : Sd X 29 [(0, 18)] [18] _)
    refine sd_inv0v (τ := []) (τr := []) (ci := 8) (q := (RX8, TX8, 18)) hC WG (M_X8_planAnew _) rfl rfl rfl rfl  rfl rfl wl_3_123 wl_3_125 wp_25 wl_1_1 wl_3_126 hd_X8_planAnew (by rw [e3]; decide) (by decide) dX8_undo_29 (?_ : Sd X 32 [(0, 18)] [] _)
    refine sd_aload_n hC 18 dX8_undo_32 rfl (by decide) (by decide) (?_ : Sd X 33 [(0, 18)] [18] _)
    refine sd_inv0 (τ := []) (τr := []) (ci := 8) (q := (RX8, TX8, 18)) hC WG (M_X8_allow _) rfl rfl rfl rfl  rfl rfl wl_4_171 wl_4_173 wp_57 wl_1_1 wl_4_174 hd_X8_allow (by rw [e3]; decide) (by decide) dX8_undo_33 (?_ : Sd X 36 [(0, 18)] [0] _)
    exact sd_zreturn hC hT dX8_undo_36
  · refine sd_aload_n hC 18 dX8_undo_10 rfl (by decide) (by decide) (?_ : Sd X 11 [(0, 18)] [18] _)
    refine sd_bipush hC dX8_undo_11 (by decide) (?_ : Sd X 13 [(0, 18)] [0, 18] _)
    refine sd_inv0 (τ := []) (τr := [0]) (ci := 8) (q := (RX8, TX8, 18)) hC WG (M_X8_deny _) rfl rfl rfl rfl  rfl rfl wl_4_167 wl_4_169 wp_56 wl_1_1 wl_4_170 hd_X8_deny (by rw [e3]; decide) (by decide) dX8_undo_13 (?_ : Sd X 16 [(0, 18)] [0] _)
    exact sd_zreturn hC hT dX8_undo_16
theorem wl_4_203 : Cond.methodLink RX8 244 yX2_allWaits ∈ WALL := tb4 (List.mem_of_getElem? (i := 203) rfl) rfl
theorem wl_4_204 : Cond.instanceMethod yX2_allWaits ∈ WALL := tb4 (List.mem_of_getElem? (i := 204) rfl) rfl
theorem wl_4_205 : Cond.selects RX2 yX2_allWaits yX2_allWaits ∈ WALL := tb4 (List.mem_of_getElem? (i := 205) rfl) rfl
theorem wl_4_206 : Cond.code yX2_allWaits cX2_allWaits 3 (some .int) ∈ WALL := tb4 (List.mem_of_getElem? (i := 206) rfl) rfl
theorem hd_X8_waited : yX8_waited.cls ≠ "java/lang/invoke/MethodHandle" ∧ yX8_waited.cls ≠ "java/lang/invoke/VarHandle" ∧ (parseMethodDescriptor yX8_waited.desc).map (fun d => d.parameters.length) = some 0 := by decide +kernel
set_option maxRecDepth 100000 in
set_option maxHeartbeats 4000000 in
theorem M_X8_waited (l : Launch) : Mt l yX8_waited (Cond.code yX8_waited cX8_waited 1 (some .int) :: WALL) { frames := 1, cells := 0, slots := 0, locals := 22 } [18] (some 0) T_X8_waited := by
  refine Mt.mk (B := E_X8_waited) (by decide +kernel) (by decide) (fun _ _ _ hh => hh) ?_
  intro X Q e1 e2 e3 hC hN hT
  subst e1
  have hC : CF X cX8_waited RX8 WALL := hC
  refine (?_ : Sd X 0 [(0, 18)] [] (E_X8_waited Q))
  unfold E_X8_waited
  refine sd_aload_n hC 18 dX8_waited_0 rfl (by decide) (by decide) (?_ : Sd X 1 [(0, 18)] [18] _)
  refine sd_inv0 (τ := []) (τr := []) (ci := 8) (q := (RX8, TX8, 18)) hC WG (M_X8_isCity _) rfl rfl rfl rfl  rfl rfl wl_4_99 wl_4_101 wp_43 wl_1_1 wl_4_102 hd_X8_isCity (by rw [e3]; decide) (by decide) dX8_waited_1 (?_ : Sd X 4 [(0, 18)] [0] _)
  refine sd_if_ne (tgt := 13) hC dX8_waited_4 rfl (?_ : Sd X 13 [(0, 18)] [] _) (?_ : Sd X 7 [(0, 18)] [] _)
  · refine sd_aload_n hC 18 dX8_waited_13 rfl (by decide) (by decide) (?_ : Sd X 14 [(0, 18)] [18] _)
    refine sd_aload_n hC 18 dX8_waited_14 rfl (by decide) (by decide) (?_ : Sd X 15 [(0, 18)] [18, 18] _)
    refine sd_get hC (ci := 8) (j := 9) (C := RX8) (T := TX8) (N := 18) rfl rfl (by decide) in_X8 wl_2_117 dX8_waited_15 (?_ : Sd X 18 [(0, 18)] [12, 18] _)
    refine sd_inv0 (τ := [18]) (τr := []) (ci := 2) (q := (RX2, TX2, 10)) hC WG (M_X2_allWaits _) rfl rfl rfl rfl  rfl rfl wl_4_203 wl_4_204 wl_4_205 wl_1_7 wl_4_206 hd_X2_allWaits (by rw [e3]; decide) (by decide) dX8_waited_18 (?_ : Sd X 21 [(0, 18)] [0, 18] _)
    refine sd_inv0 (τ := []) (τr := [0]) (ci := 8) (q := (RX8, TX8, 18)) hC WG (M_X8_grant _) rfl rfl rfl rfl  rfl rfl wl_3_225 wl_3_227 wp_34 wl_1_1 wl_3_228 hd_X8_grant (by rw [e3]; decide) (by decide) dX8_waited_21 (?_ : Sd X 24 [(0, 18)] [0] _)
    exact sd_ireturn hC hT dX8_waited_24
  · refine sd_aload_n hC 18 dX8_waited_7 rfl (by decide) (by decide) (?_ : Sd X 8 [(0, 18)] [18] _)
    refine sd_iconst hC dX8_waited_8 ⟨by decide, by decide⟩ (?_ : Sd X 9 [(0, 18)] [0, 18] _)
    refine sd_inv0 (τ := []) (τr := [0]) (ci := 8) (q := (RX8, TX8, 18)) hC WG (M_X8_refuse _) rfl rfl rfl rfl  rfl rfl wl_2_175 wl_2_177 wp_1 wl_1_1 wl_2_178 hd_X8_refuse (by rw [e3]; decide) (by decide) dX8_waited_9 (?_ : Sd X 12 [(0, 18)] [0] _)
    exact sd_ireturn hC hT dX8_waited_12
theorem wl_2_124 : Cond.fieldLink RX8 111 "NarrowRings" "faultPlace" "I" ∈ WALL := tb2 (List.mem_of_getElem? (i := 124) rfl) rfl
theorem hd_X8_where : yX8_where.cls ≠ "java/lang/invoke/MethodHandle" ∧ yX8_where.cls ≠ "java/lang/invoke/VarHandle" ∧ (parseMethodDescriptor yX8_where.desc).map (fun d => d.parameters.length) = some 0 := by decide +kernel
set_option maxRecDepth 100000 in
set_option maxHeartbeats 4000000 in
theorem M_X8_where (l : Launch) : Mt l yX8_where (Cond.code yX8_where cX8_where 1 (some .int) :: WALL) { frames := 0, cells := 0, slots := 0, locals := 0 } [18] (some 0) T_X8_where := by
  refine Mt.mk (B := E_X8_where) (by decide +kernel) (by decide) (fun _ _ _ hh => hh) ?_
  intro X Q e1 e2 e3 hC hN hT
  subst e1
  have hC : CF X cX8_where RX8 WALL := hC
  have S_16 : Sd X 16 [(0, 18)] [0] (B_X8_where_16 Q) := by
    unfold B_X8_where_16
    exact sd_ireturn hC hT dX8_where_16
  refine (?_ : Sd X 0 [(0, 18)] [] (E_X8_where Q))
  unfold E_X8_where
  refine sd_aload_n hC 18 dX8_where_0 rfl (by decide) (by decide) (?_ : Sd X 1 [(0, 18)] [18] _)
  refine sd_get hC (ci := 8) (j := 17) (C := RX8) (T := TX8) (N := 18) rfl rfl (by decide) in_X8 wl_2_125 dX8_where_1 (?_ : Sd X 4 [(0, 18)] [0] _)
  refine sd_iconst hC dX8_where_4 ⟨by decide, by decide⟩ (?_ : Sd X 5 [(0, 18)] [0, 0] _)
  refine sd_icmp_ne (tgt := 15) hC dX8_where_5 rfl (?_ : Sd X 15 [(0, 18)] [] _) (?_ : Sd X 8 [(0, 18)] [] _)
  · refine sd_iconst hC dX8_where_15 ⟨by decide, by decide⟩ (?_ : Sd X 16 [(0, 18)] [0] _)
    exact Sd.weak (by decide) (S_16)
  · refine sd_aload_n hC 18 dX8_where_8 rfl (by decide) (by decide) (?_ : Sd X 9 [(0, 18)] [18] _)
    refine sd_get hC (ci := 8) (j := 16) (C := RX8) (T := TX8) (N := 18) rfl rfl (by decide) in_X8 wl_2_124 dX8_where_9 (?_ : Sd X 12 [(0, 18)] [0] _)
    refine sd_goto (tgt := 16) hC dX8_where_12 rfl (?_ : Sd X 16 [(0, 18)] [0] _)
    exact Sd.weak (by decide) (S_16)
theorem hd_X8_widen : yX8_widen.cls ≠ "java/lang/invoke/MethodHandle" ∧ yX8_widen.cls ≠ "java/lang/invoke/VarHandle" ∧ (parseMethodDescriptor yX8_widen.desc).map (fun d => d.parameters.length) = some 3 := by decide +kernel
set_option maxRecDepth 100000 in
set_option maxHeartbeats 4000000 in
theorem M_X8_widen (l : Launch) : Mt l yX8_widen (Cond.code yX8_widen cX8_widen 6 (some .boolean) :: WALL) { frames := 6, cells := 0, slots := 0, locals := 145 } [18, 0, 0, 0] (some 0) T_X8_widen := by
  refine Mt.mk (B := E_X8_widen) (by decide +kernel) (by decide) (fun _ _ _ hh => hh) ?_
  intro X Q e1 e2 e3 hC hN hT
  subst e1
  have hC : CF X cX8_widen RX8 WALL := hC
  have S_28 : Sd X 28 [(0, 18), (1, 0), (2, 0), (3, 0)] [] (B_X8_widen_28 Q) := by
    unfold B_X8_widen_28
    refine sd_aload_n hC 18 dX8_widen_28 rfl (by decide) (by decide) (?_ : Sd X 29 [(0, 18), (1, 0), (2, 0), (3, 0)] [18] _)
    refine sd_iconst hC dX8_widen_29 ⟨by decide, by decide⟩ (?_ : Sd X 30 [(0, 18), (1, 0), (2, 0), (3, 0)] [0, 18] _)
    refine sd_inv0 (τ := []) (τr := [0]) (ci := 8) (q := (RX8, TX8, 18)) hC WG (M_X8_deny _) rfl rfl rfl rfl  rfl rfl wl_4_167 wl_4_169 wp_56 wl_1_1 wl_4_170 hd_X8_deny (by rw [e3]; decide) (by decide) dX8_widen_30 (?_ : Sd X 33 [(0, 18), (1, 0), (2, 0), (3, 0)] [0] _)
    exact sd_zreturn hC hT dX8_widen_33
  have S_81 : Sd X 81 [(0, 18), (1, 0), (2, 0), (3, 0), (4, 100), (5, 0)] [] (B_X8_widen_81 Q) := by
    unfold B_X8_widen_81
    refine sd_aload_n hC 18 dX8_widen_81 rfl (by decide) (by decide) (?_ : Sd X 82 [(0, 18), (1, 0), (2, 0), (3, 0), (4, 100), (5, 0)] [18] _)
    refine sd_iconst hC dX8_widen_82 ⟨by decide, by decide⟩ (?_ : Sd X 83 [(0, 18), (1, 0), (2, 0), (3, 0), (4, 100), (5, 0)] [0, 18] _)
    refine sd_inv0 (τ := []) (τr := [0]) (ci := 8) (q := (RX8, TX8, 18)) hC WG (M_X8_deny _) rfl rfl rfl rfl  rfl rfl wl_4_167 wl_4_169 wp_56 wl_1_1 wl_4_170 hd_X8_deny (by rw [e3]; decide) (by decide) dX8_widen_83 (?_ : Sd X 86 [(0, 18), (1, 0), (2, 0), (3, 0), (4, 100), (5, 0)] [0] _)
    exact sd_zreturn hC hT dX8_widen_86
  have S_66 : Sd X 66 [(0, 18), (1, 0), (2, 0), (3, 0), (4, 100)] [0] (B_X8_widen_66 Q) := by
    unfold B_X8_widen_66
    refine sd_istore (Γ' := [(0, 18), (1, 0), (2, 0), (3, 0), (4, 100), (5, 0)]) hC dX8_widen_66 (by rw [e2]; decide) (by decide) (?_ : Sd X 68 [(0, 18), (1, 0), (2, 0), (3, 0), (4, 100), (5, 0)] [] _)
    refine sd_iload hC dX8_widen_68 (by decide) (?_ : Sd X 70 [(0, 18), (1, 0), (2, 0), (3, 0), (4, 100), (5, 0)] [0] _)
    refine sd_if_eq (tgt := 81) hC dX8_widen_70 rfl (?_ : Sd X 81 [(0, 18), (1, 0), (2, 0), (3, 0), (4, 100), (5, 0)] [] _) (?_ : Sd X 73 [(0, 18), (1, 0), (2, 0), (3, 0), (4, 100), (5, 0)] [] _)
    · exact Sd.weak (by decide) (S_81)
    · refine sd_aload hC 100 dX8_widen_73 (by decide) (by decide) (?_ : Sd X 75 [(0, 18), (1, 0), (2, 0), (3, 0), (4, 100), (5, 0)] [100] _)
      refine sd_bipush hC dX8_widen_75 (by decide) (?_ : Sd X 77 [(0, 18), (1, 0), (2, 0), (3, 0), (4, 100), (5, 0)] [0, 100] _)
      refine sd_iaload hC dX8_widen_77 (?_ : Sd X 78 [(0, 18), (1, 0), (2, 0), (3, 0), (4, 100), (5, 0)] [0] _)
      refine sd_if_eq (tgt := 87) hC dX8_widen_78 rfl (?_ : Sd X 87 [(0, 18), (1, 0), (2, 0), (3, 0), (4, 100), (5, 0)] [] _) (?_ : Sd X 81 [(0, 18), (1, 0), (2, 0), (3, 0), (4, 100), (5, 0)] [] _)
      · refine sd_aload_n hC 18 dX8_widen_87 rfl (by decide) (by decide) (?_ : Sd X 88 [(0, 18), (1, 0), (2, 0), (3, 0), (4, 100), (5, 0)] [18] _)
        refine sd_get hC (ci := 8) (j := 12) (C := RX8) (T := TX8) (N := 18) rfl rfl (by decide) in_X8 wl_2_120 dX8_widen_88 (?_ : Sd X 91 [(0, 18), (1, 0), (2, 0), (3, 0), (4, 100), (5, 0)] [10] _)
        refine sd_aload_n hC 18 dX8_widen_91 rfl (by decide) (by decide) (?_ : Sd X 92 [(0, 18), (1, 0), (2, 0), (3, 0), (4, 100), (5, 0)] [18, 10] _)
        refine sd_get hC (ci := 8) (j := 2) (C := RX8) (T := TX8) (N := 18) rfl rfl (by decide) in_X8 wl_2_110 dX8_widen_92 (?_ : Sd X 95 [(0, 18), (1, 0), (2, 0), (3, 0), (4, 100), (5, 0)] [11, 10] _)
        refine sd_iload_n hC dX8_widen_95 rfl (by decide) (?_ : Sd X 96 [(0, 18), (1, 0), (2, 0), (3, 0), (4, 100), (5, 0)] [0, 11, 10] _)
        refine sd_inv0v (τ := []) (τr := [11, 0]) (ci := 0) (q := (RX0, TX0, 2)) hC WG (M_X0_keep _) rfl rfl rfl rfl  rfl rfl wl_5_56 wl_5_57 wl_5_58 wl_1_8 wl_5_59 hd_X0_keep (by rw [e3]; decide) (by decide) dX8_widen_96 (?_ : Sd X 99 [(0, 18), (1, 0), (2, 0), (3, 0), (4, 100), (5, 0)] [] _)
        refine sd_aload hC 100 dX8_widen_99 (by decide) (by decide) (?_ : Sd X 101 [(0, 18), (1, 0), (2, 0), (3, 0), (4, 100), (5, 0)] [100] _)
        refine sd_iload_n hC dX8_widen_101 rfl (by decide) (?_ : Sd X 102 [(0, 18), (1, 0), (2, 0), (3, 0), (4, 100), (5, 0)] [0, 100] _)
        refine sd_iload_n hC dX8_widen_102 rfl (by decide) (?_ : Sd X 103 [(0, 18), (1, 0), (2, 0), (3, 0), (4, 100), (5, 0)] [0, 0, 100] _)
        refine sd_invsv (τ := []) (τs := [100, 0, 0]) hC false "" WG (M_X8_enlarge _) rfl rfl rfl rfl wl_4_233 wl_4_234 wl_1_1 wl_4_235 hd_X8_enlarge (by rw [e3]; decide) (by decide) dX8_widen_103 (?_ : Sd X 106 [(0, 18), (1, 0), (2, 0), (3, 0), (4, 100), (5, 0)] [] _)
        refine sd_aload_n hC 18 dX8_widen_106 rfl (by decide) (by decide) (?_ : Sd X 107 [(0, 18), (1, 0), (2, 0), (3, 0), (4, 100), (5, 0)] [18] _)
        refine sd_inv0v (τ := []) (τr := []) (ci := 8) (q := (RX8, TX8, 18)) hC WG (M_X8_planAnew _) rfl rfl rfl rfl  rfl rfl wl_3_123 wl_3_125 wp_25 wl_1_1 wl_3_126 hd_X8_planAnew (by rw [e3]; decide) (by decide) dX8_widen_107 (?_ : Sd X 110 [(0, 18), (1, 0), (2, 0), (3, 0), (4, 100), (5, 0)] [] _)
        refine sd_aload_n hC 18 dX8_widen_110 rfl (by decide) (by decide) (?_ : Sd X 111 [(0, 18), (1, 0), (2, 0), (3, 0), (4, 100), (5, 0)] [18] _)
        refine sd_inv0 (τ := []) (τr := []) (ci := 8) (q := (RX8, TX8, 18)) hC WG (M_X8_allow _) rfl rfl rfl rfl  rfl rfl wl_4_171 wl_4_173 wp_57 wl_1_1 wl_4_174 hd_X8_allow (by rw [e3]; decide) (by decide) dX8_widen_111 (?_ : Sd X 114 [(0, 18), (1, 0), (2, 0), (3, 0), (4, 100), (5, 0)] [0] _)
        exact sd_zreturn hC hT dX8_widen_114
      · exact Sd.weak (by decide) (S_81)
  have S_61 : Sd X 61 [(0, 18), (1, 0), (2, 0), (3, 0), (4, 100)] [] (B_X8_widen_61 Q) := by
    unfold B_X8_widen_61
    refine sd_iconst hC dX8_widen_61 ⟨by decide, by decide⟩ (?_ : Sd X 62 [(0, 18), (1, 0), (2, 0), (3, 0), (4, 100)] [0] _)
    refine sd_goto (tgt := 66) hC dX8_widen_62 rfl (?_ : Sd X 66 [(0, 18), (1, 0), (2, 0), (3, 0), (4, 100)] [0] _)
    exact Sd.weak (by decide) (S_66)
  refine (?_ : Sd X 0 [(0, 18), (1, 0), (2, 0), (3, 0)] [] (E_X8_widen Q))
  unfold E_X8_widen
  refine sd_aload_n hC 18 dX8_widen_0 rfl (by decide) (by decide) (?_ : Sd X 1 [(0, 18), (1, 0), (2, 0), (3, 0)] [18] _)
  refine sd_iload_n hC dX8_widen_1 rfl (by decide) (?_ : Sd X 2 [(0, 18), (1, 0), (2, 0), (3, 0)] [0, 18] _)
  refine sd_inv0 (τ := []) (τr := [0]) (ci := 8) (q := (RX8, TX8, 18)) hC WG (M_X8_isGate _) rfl rfl rfl rfl  rfl rfl wl_4_2 wl_4_4 wp_35 wl_1_1 wl_4_5 hd_X8_isGate (by rw [e3]; decide) (by decide) dX8_widen_2 (?_ : Sd X 5 [(0, 18), (1, 0), (2, 0), (3, 0)] [0] _)
  refine sd_if_ne (tgt := 14) hC dX8_widen_5 rfl (?_ : Sd X 14 [(0, 18), (1, 0), (2, 0), (3, 0)] [] _) (?_ : Sd X 8 [(0, 18), (1, 0), (2, 0), (3, 0)] [] _)
  · refine sd_iload_n hC dX8_widen_14 rfl (by decide) (?_ : Sd X 15 [(0, 18), (1, 0), (2, 0), (3, 0)] [0] _)
    refine sd_invs (τ := []) (τs := [0]) hC false "" WG (M_X8_isSize _) rfl rfl rfl rfl wl_4_226 wl_4_227 wl_1_1 wl_4_228 hd_X8_isSize (by rw [e3]; decide) (by decide) dX8_widen_15 (?_ : Sd X 18 [(0, 18), (1, 0), (2, 0), (3, 0)] [0] _)
    refine sd_if_eq (tgt := 28) hC dX8_widen_18 rfl (?_ : Sd X 28 [(0, 18), (1, 0), (2, 0), (3, 0)] [] _) (?_ : Sd X 21 [(0, 18), (1, 0), (2, 0), (3, 0)] [] _)
    · exact Sd.weak (by decide) (S_28)
    · refine sd_iload_n hC dX8_widen_21 rfl (by decide) (?_ : Sd X 22 [(0, 18), (1, 0), (2, 0), (3, 0)] [0] _)
      refine sd_invs (τ := []) (τs := [0]) hC false "" WG (M_X8_isSize _) rfl rfl rfl rfl wl_4_226 wl_4_227 wl_1_1 wl_4_228 hd_X8_isSize (by rw [e3]; decide) (by decide) dX8_widen_22 (?_ : Sd X 25 [(0, 18), (1, 0), (2, 0), (3, 0)] [0] _)
      refine sd_if_ne (tgt := 34) hC dX8_widen_25 rfl (?_ : Sd X 34 [(0, 18), (1, 0), (2, 0), (3, 0)] [] _) (?_ : Sd X 28 [(0, 18), (1, 0), (2, 0), (3, 0)] [] _)
      · refine sd_aload_n hC 18 dX8_widen_34 rfl (by decide) (by decide) (?_ : Sd X 35 [(0, 18), (1, 0), (2, 0), (3, 0)] [18] _)
        refine sd_get hC (ci := 8) (j := 2) (C := RX8) (T := TX8) (N := 18) rfl rfl (by decide) in_X8 wl_2_110 dX8_widen_35 (?_ : Sd X 38 [(0, 18), (1, 0), (2, 0), (3, 0)] [11] _)
        refine sd_get hC (ci := 1) (j := 6) (C := RX1) (T := TX1) (N := 12) rfl rfl (by decide) in_X1 wl_1_104 dX8_widen_38 (?_ : Sd X 41 [(0, 18), (1, 0), (2, 0), (3, 0)] [200] _)
        refine sd_iload_n hC dX8_widen_41 rfl (by decide) (?_ : Sd X 42 [(0, 18), (1, 0), (2, 0), (3, 0)] [0, 200] _)
        refine sd_aaload (e := 100) hC (List.mem_of_getElem? (i := 7) rfl) rfl rfl dX8_widen_42 (?_ : Sd X 43 [(0, 18), (1, 0), (2, 0), (3, 0)] [100] _)
        refine sd_astore (Γ' := [(0, 18), (1, 0), (2, 0), (3, 0), (4, 100)]) hC dX8_widen_43 (by decide) (by rw [e2]; decide) (by decide) (?_ : Sd X 45 [(0, 18), (1, 0), (2, 0), (3, 0), (4, 100)] [] _)
        refine sd_iload_n hC dX8_widen_45 rfl (by decide) (?_ : Sd X 46 [(0, 18), (1, 0), (2, 0), (3, 0), (4, 100)] [0] _)
        refine sd_aload hC 100 dX8_widen_46 (by decide) (by decide) (?_ : Sd X 48 [(0, 18), (1, 0), (2, 0), (3, 0), (4, 100)] [100, 0] _)
        refine sd_iconst hC dX8_widen_48 ⟨by decide, by decide⟩ (?_ : Sd X 49 [(0, 18), (1, 0), (2, 0), (3, 0), (4, 100)] [0, 100, 0] _)
        refine sd_iaload hC dX8_widen_49 (?_ : Sd X 50 [(0, 18), (1, 0), (2, 0), (3, 0), (4, 100)] [0, 0] _)
        refine sd_icmp_gt (tgt := 61) hC dX8_widen_50 rfl (?_ : Sd X 61 [(0, 18), (1, 0), (2, 0), (3, 0), (4, 100)] [] _) (?_ : Sd X 53 [(0, 18), (1, 0), (2, 0), (3, 0), (4, 100)] [] _)
        · exact Sd.weak (by decide) (S_61)
        · refine sd_iload_n hC dX8_widen_53 rfl (by decide) (?_ : Sd X 54 [(0, 18), (1, 0), (2, 0), (3, 0), (4, 100)] [0] _)
          refine sd_aload hC 100 dX8_widen_54 (by decide) (by decide) (?_ : Sd X 56 [(0, 18), (1, 0), (2, 0), (3, 0), (4, 100)] [100, 0] _)
          refine sd_iconst hC dX8_widen_56 ⟨by decide, by decide⟩ (?_ : Sd X 57 [(0, 18), (1, 0), (2, 0), (3, 0), (4, 100)] [0, 100, 0] _)
          refine sd_iaload hC dX8_widen_57 (?_ : Sd X 58 [(0, 18), (1, 0), (2, 0), (3, 0), (4, 100)] [0, 0] _)
          refine sd_icmp_le (tgt := 65) hC dX8_widen_58 rfl (?_ : Sd X 65 [(0, 18), (1, 0), (2, 0), (3, 0), (4, 100)] [] _) (?_ : Sd X 61 [(0, 18), (1, 0), (2, 0), (3, 0), (4, 100)] [] _)
          · refine sd_iconst hC dX8_widen_65 ⟨by decide, by decide⟩ (?_ : Sd X 66 [(0, 18), (1, 0), (2, 0), (3, 0), (4, 100)] [0] _)
            exact Sd.weak (by decide) (S_66)
          · exact Sd.weak (by decide) (S_61)
      · exact Sd.weak (by decide) (S_28)
  · refine sd_aload_n hC 18 dX8_widen_8 rfl (by decide) (by decide) (?_ : Sd X 9 [(0, 18), (1, 0), (2, 0), (3, 0)] [18] _)
    refine sd_iconst hC dX8_widen_9 ⟨by decide, by decide⟩ (?_ : Sd X 10 [(0, 18), (1, 0), (2, 0), (3, 0)] [0, 18] _)
    refine sd_inv0 (τ := []) (τr := [0]) (ci := 8) (q := (RX8, TX8, 18)) hC WG (M_X8_deny _) rfl rfl rfl rfl  rfl rfl wl_4_167 wl_4_169 wp_56 wl_1_1 wl_4_170 hd_X8_deny (by rw [e3]; decide) (by decide) dX8_widen_10 (?_ : Sd X 13 [(0, 18), (1, 0), (2, 0), (3, 0)] [0] _)
    exact sd_zreturn hC hT dX8_widen_13
theorem wl_2_49 : Cond.fieldLink RX8 241 "NarrowRings$Day" "toiled" "[I" ∈ WALL := tb2 (List.mem_of_getElem? (i := 49) rfl) rfl
theorem hd_X8_worked : yX8_worked.cls ≠ "java/lang/invoke/MethodHandle" ∧ yX8_worked.cls ≠ "java/lang/invoke/VarHandle" ∧ (parseMethodDescriptor yX8_worked.desc).map (fun d => d.parameters.length) = some 1 := by decide +kernel
set_option maxRecDepth 100000 in
set_option maxHeartbeats 4000000 in
theorem M_X8_worked (l : Launch) : Mt l yX8_worked (Cond.code yX8_worked cX8_worked 2 (some .int) :: WALL) { frames := 2, cells := 0, slots := 0, locals := 42 } [18, 0] (some 0) T_X8_worked := by
  refine Mt.mk (B := E_X8_worked) (by decide +kernel) (by decide) (fun _ _ _ hh => hh) ?_
  intro X Q e1 e2 e3 hC hN hT
  subst e1
  have hC : CF X cX8_worked RX8 WALL := hC
  refine (?_ : Sd X 0 [(0, 18), (1, 0)] [] (E_X8_worked Q))
  unfold E_X8_worked
  refine sd_aload_n hC 18 dX8_worked_0 rfl (by decide) (by decide) (?_ : Sd X 1 [(0, 18), (1, 0)] [18] _)
  refine sd_iload_n hC dX8_worked_1 rfl (by decide) (?_ : Sd X 2 [(0, 18), (1, 0)] [0, 18] _)
  refine sd_inv0 (τ := []) (τr := [0]) (ci := 8) (q := (RX8, TX8, 18)) hC WG (M_X8_isGate _) rfl rfl rfl rfl  rfl rfl wl_4_2 wl_4_4 wp_35 wl_1_1 wl_4_5 hd_X8_isGate (by rw [e3]; decide) (by decide) dX8_worked_2 (?_ : Sd X 5 [(0, 18), (1, 0)] [0] _)
  refine sd_if_ne (tgt := 14) hC dX8_worked_5 rfl (?_ : Sd X 14 [(0, 18), (1, 0)] [] _) (?_ : Sd X 8 [(0, 18), (1, 0)] [] _)
  · refine sd_aload_n hC 18 dX8_worked_14 rfl (by decide) (by decide) (?_ : Sd X 15 [(0, 18), (1, 0)] [18] _)
    refine sd_aload_n hC 18 dX8_worked_15 rfl (by decide) (by decide) (?_ : Sd X 16 [(0, 18), (1, 0)] [18, 18] _)
    refine sd_get hC (ci := 8) (j := 9) (C := RX8) (T := TX8) (N := 18) rfl rfl (by decide) in_X8 wl_2_117 dX8_worked_16 (?_ : Sd X 19 [(0, 18), (1, 0)] [12, 18] _)
    refine sd_get hC (ci := 2) (j := 6) (C := RX2) (T := TX2) (N := 10) rfl rfl (by decide) in_X2 wl_2_49 dX8_worked_19 (?_ : Sd X 22 [(0, 18), (1, 0)] [100, 18] _)
    refine sd_iload_n hC dX8_worked_22 rfl (by decide) (?_ : Sd X 23 [(0, 18), (1, 0)] [0, 100, 18] _)
    refine sd_iaload hC dX8_worked_23 (?_ : Sd X 24 [(0, 18), (1, 0)] [0, 18] _)
    refine sd_inv0 (τ := []) (τr := [0]) (ci := 8) (q := (RX8, TX8, 18)) hC WG (M_X8_grant _) rfl rfl rfl rfl  rfl rfl wl_3_225 wl_3_227 wp_34 wl_1_1 wl_3_228 hd_X8_grant (by rw [e3]; decide) (by decide) dX8_worked_24 (?_ : Sd X 27 [(0, 18), (1, 0)] [0] _)
    exact sd_ireturn hC hT dX8_worked_27
  · refine sd_aload_n hC 18 dX8_worked_8 rfl (by decide) (by decide) (?_ : Sd X 9 [(0, 18), (1, 0)] [18] _)
    refine sd_iconst hC dX8_worked_9 ⟨by decide, by decide⟩ (?_ : Sd X 10 [(0, 18), (1, 0)] [0, 18] _)
    refine sd_inv0 (τ := []) (τr := [0]) (ci := 8) (q := (RX8, TX8, 18)) hC WG (M_X8_refuse _) rfl rfl rfl rfl  rfl rfl wl_2_175 wl_2_177 wp_1 wl_1_1 wl_2_178 hd_X8_refuse (by rw [e3]; decide) (by decide) dX8_worked_10 (?_ : Sd X 13 [(0, 18), (1, 0)] [0] _)
    exact sd_ireturn hC hT dX8_worked_13
theorem wl_6_128 : Cond.fieldLink RX9 73 "NarrowRingsModel$City" "name" "[J" ∈ WALL := tb6 (List.mem_of_getElem? (i := 128) rfl) rfl
theorem wl_6_87 : Cond.fieldLink RX9 80 "NarrowRingsModel$City" "names" "I" ∈ WALL := tb6 (List.mem_of_getElem? (i := 87) rfl) rfl
theorem wl_6_129 : Cond.fieldLink RX9 77 "NarrowRingsModel$City" "goodOf" "[I" ∈ WALL := tb6 (List.mem_of_getElem? (i := 129) rfl) rfl
theorem hd_X9_adds : yX9_adds.cls ≠ "java/lang/invoke/MethodHandle" ∧ yX9_adds.cls ≠ "java/lang/invoke/VarHandle" ∧ (parseMethodDescriptor yX9_adds.desc).map (fun d => d.parameters.length) = some 2 := by decide +kernel
set_option maxRecDepth 100000 in
set_option maxHeartbeats 4000000 in
theorem M_X9_adds (l : Launch) : Mt l yX9_adds (Cond.code yX9_adds cX9_adds 4 none :: WALL) { frames := 0, cells := 0, slots := 0, locals := 0 } [19, 1, 0] none T_X9_adds := by
  refine Mt.mk (B := E_X9_adds) (by decide +kernel) (by decide) (fun _ _ _ hh => hh) ?_
  intro X Q e1 e2 e3 hC hN hT
  subst e1
  have hC : CF X cX9_adds RX9 WALL := hC
  refine (?_ : Sd X 0 [(0, 19), (1, 1), (3, 0)] [] (E_X9_adds Q))
  unfold E_X9_adds
  refine sd_aload_n hC 19 dX9_adds_0 rfl (by decide) (by decide) (?_ : Sd X 1 [(0, 19), (1, 1), (3, 0)] [19] _)
  refine sd_get hC (ci := 9) (j := 26) (C := RX9) (T := TX9) (N := 28) rfl rfl (by decide) in_X9 wl_6_128 dX9_adds_1 (?_ : Sd X 4 [(0, 19), (1, 1), (3, 0)] [101] _)
  refine sd_aload_n hC 19 dX9_adds_4 rfl (by decide) (by decide) (?_ : Sd X 5 [(0, 19), (1, 1), (3, 0)] [19, 101] _)
  refine sd_get hC (ci := 9) (j := 5) (C := RX9) (T := TX9) (N := 28) rfl rfl (by decide) in_X9 wl_6_87 dX9_adds_5 (?_ : Sd X 8 [(0, 19), (1, 1), (3, 0)] [0, 101] _)
  refine sd_lload_n hC dX9_adds_8 rfl (by decide) (?_ : Sd X 9 [(0, 19), (1, 1), (3, 0)] [1, 0, 101] _)
  refine sd_lastore hC dX9_adds_9 (?_ : Sd X 10 [(0, 19), (1, 1), (3, 0)] [] _)
  refine sd_aload_n hC 19 dX9_adds_10 rfl (by decide) (by decide) (?_ : Sd X 11 [(0, 19), (1, 1), (3, 0)] [19] _)
  refine sd_get hC (ci := 9) (j := 27) (C := RX9) (T := TX9) (N := 28) rfl rfl (by decide) in_X9 wl_6_129 dX9_adds_11 (?_ : Sd X 14 [(0, 19), (1, 1), (3, 0)] [100] _)
  refine sd_aload_n hC 19 dX9_adds_14 rfl (by decide) (by decide) (?_ : Sd X 15 [(0, 19), (1, 1), (3, 0)] [19, 100] _)
  refine sd_get hC (ci := 9) (j := 5) (C := RX9) (T := TX9) (N := 28) rfl rfl (by decide) in_X9 wl_6_87 dX9_adds_15 (?_ : Sd X 18 [(0, 19), (1, 1), (3, 0)] [0, 100] _)
  refine sd_iload_n hC dX9_adds_18 rfl (by decide) (?_ : Sd X 19 [(0, 19), (1, 1), (3, 0)] [0, 0, 100] _)
  refine sd_iastore hC dX9_adds_19 (?_ : Sd X 20 [(0, 19), (1, 1), (3, 0)] [] _)
  refine sd_aload_n hC 19 dX9_adds_20 rfl (by decide) (by decide) (?_ : Sd X 21 [(0, 19), (1, 1), (3, 0)] [19] _)
  refine sd_dup hC (by decide) dX9_adds_21 (?_ : Sd X 22 [(0, 19), (1, 1), (3, 0)] [19, 19] _)
  refine sd_get hC (ci := 9) (j := 5) (C := RX9) (T := TX9) (N := 28) rfl rfl (by decide) in_X9 wl_6_87 dX9_adds_22 (?_ : Sd X 25 [(0, 19), (1, 1), (3, 0)] [0, 19] _)
  refine sd_iconst hC dX9_adds_25 ⟨by decide, by decide⟩ (?_ : Sd X 26 [(0, 19), (1, 1), (3, 0)] [0, 0, 19] _)
  refine sd_iadd hC dX9_adds_26 (?_ : Sd X 27 [(0, 19), (1, 1), (3, 0)] [0, 19] _)
  refine sd_put hC (ci := 9) (j := 5) (C := RX9) (T := TX9) (N := 28) tyX9 tyX9_ok nmX9 rfl rfl (by decide) in_X9 rfl rfl wl_6_87 dX9_adds_27 (?_ : Sd X 30 [(0, 19), (1, 1), (3, 0)] [] _)
  exact sd_return hC hT dX9_adds_30
theorem hd_X9_find : yX9_find.cls ≠ "java/lang/invoke/MethodHandle" ∧ yX9_find.cls ≠ "java/lang/invoke/VarHandle" ∧ (parseMethodDescriptor yX9_find.desc).map (fun d => d.parameters.length) = some 1 := by decide +kernel
set_option maxRecDepth 100000 in
set_option maxHeartbeats 4000000 in
theorem M_X9_find (l : Launch) : Mt l yX9_find (Cond.code yX9_find cX9_find 4 (some .int) :: WALL) { frames := 0, cells := 0, slots := 0, locals := 0 } [19, 1] (some 0) T_X9_find := by
  refine Mt.mk (B := E_X9_find) (by decide +kernel) (by decide) (fun _ _ _ hh => hh) ?_
  intro X Q e1 e2 e3 hC hN hT
  subst e1
  have hC : CF X cX9_find RX9 WALL := hC
  have S_2 : Sd X 2 [(0, 19), (1, 1), (3, 0)] [] (L_X9_find_2 Q) := by
    unfold L_X9_find_2
    refine Sd.loop (fun k2 h2 => ?_)
    refine sd_iload_n hC dX9_find_2 rfl (by decide) (?_ : Sd X 3 [(0, 19), (1, 1), (3, 0)] [0] _)
    refine sd_aload_n hC 19 dX9_find_3 rfl (by decide) (by decide) (?_ : Sd X 4 [(0, 19), (1, 1), (3, 0)] [19, 0] _)
    refine sd_get hC (ci := 9) (j := 5) (C := RX9) (T := TX9) (N := 28) rfl rfl (by decide) in_X9 wl_6_87 dX9_find_4 (?_ : Sd X 7 [(0, 19), (1, 1), (3, 0)] [0, 0] _)
    refine sd_icmp_ge (tgt := 29) hC dX9_find_7 rfl (?_ : Sd X 29 [(0, 19), (1, 1), (3, 0)] [] _) (?_ : Sd X 10 [(0, 19), (1, 1), (3, 0)] [] _)
    · refine sd_iconst hC dX9_find_29 ⟨by decide, by decide⟩ (?_ : Sd X 30 [(0, 19), (1, 1), (3, 0)] [0] _)
      exact sd_ireturn hC hT dX9_find_30
    · refine sd_aload_n hC 19 dX9_find_10 rfl (by decide) (by decide) (?_ : Sd X 11 [(0, 19), (1, 1), (3, 0)] [19] _)
      refine sd_get hC (ci := 9) (j := 26) (C := RX9) (T := TX9) (N := 28) rfl rfl (by decide) in_X9 wl_6_128 dX9_find_11 (?_ : Sd X 14 [(0, 19), (1, 1), (3, 0)] [101] _)
      refine sd_iload_n hC dX9_find_14 rfl (by decide) (?_ : Sd X 15 [(0, 19), (1, 1), (3, 0)] [0, 101] _)
      refine sd_laload hC dX9_find_15 (?_ : Sd X 16 [(0, 19), (1, 1), (3, 0)] [1] _)
      refine sd_lload_n hC dX9_find_16 rfl (by decide) (?_ : Sd X 17 [(0, 19), (1, 1), (3, 0)] [1, 1] _)
      refine sd_lcmp hC dX9_find_17 (?_ : Sd X 18 [(0, 19), (1, 1), (3, 0)] [0] _)
      refine sd_if_ne (tgt := 23) hC dX9_find_18 rfl (?_ : Sd X 23 [(0, 19), (1, 1), (3, 0)] [] _) (?_ : Sd X 21 [(0, 19), (1, 1), (3, 0)] [] _)
      · refine sd_iinc (Γ' := [(0, 19), (1, 1), (3, 0)]) hC dX9_find_23 (by decide) (by rw [e2]; decide) (by decide) (?_ : Sd X 26 [(0, 19), (1, 1), (3, 0)] [] _)
        refine sd_goto (tgt := 2) hC dX9_find_26 rfl (?_ : Sd X 2 [(0, 19), (1, 1), (3, 0)] [] _)
        exact Sd.weak (by decide) h2
      · refine sd_iload_n hC dX9_find_21 rfl (by decide) (?_ : Sd X 22 [(0, 19), (1, 1), (3, 0)] [0] _)
        exact sd_ireturn hC hT dX9_find_22
  refine (?_ : Sd X 0 [(0, 19), (1, 1)] [] (E_X9_find Q))
  unfold E_X9_find
  refine sd_iconst hC dX9_find_0 ⟨by decide, by decide⟩ (?_ : Sd X 1 [(0, 19), (1, 1)] [0] _)
  refine sd_istore_n (Γ' := [(0, 19), (1, 1), (3, 0)]) hC dX9_find_1 rfl (by rw [e2]; decide) (by decide) (?_ : Sd X 2 [(0, 19), (1, 1), (3, 0)] [] _)
  exact Sd.weak (by decide) (S_2)
theorem wl_6_81 : Cond.methodLink RX9 3 Lib.objectInit ∈ WALL := tb6 (List.mem_of_getElem? (i := 81) rfl) rfl
theorem wl_6_88 : Cond.fieldLink RX9 9 "NarrowRingsModel$City" "width" "[I" ∈ WALL := tb6 (List.mem_of_getElem? (i := 88) rfl) rfl
theorem wl_6_90 : Cond.fieldLink RX9 15 "NarrowRingsModel$City" "bread" "[I" ∈ WALL := tb6 (List.mem_of_getElem? (i := 90) rfl) rfl
theorem wl_6_92 : Cond.fieldLink RX9 18 "NarrowRingsModel$City" "mouths" "[I" ∈ WALL := tb6 (List.mem_of_getElem? (i := 92) rfl) rfl
theorem wl_6_188 : Cond.arrayClass .boolean ∈ WALL := tb6 (List.mem_of_getElem? (i := 188) rfl) rfl
theorem wl_6_94 : Cond.fieldLink RX9 21 "NarrowRingsModel$City" "isStore" "[Z" ∈ WALL := tb6 (List.mem_of_getElem? (i := 94) rfl) rfl
theorem wl_6_96 : Cond.fieldLink RX9 25 "NarrowRingsModel$City" "tilts" "[Z" ∈ WALL := tb6 (List.mem_of_getElem? (i := 96) rfl) rfl
theorem wl_6_98 : Cond.fieldLink RX9 28 "NarrowRingsModel$City" "isHoly" "[Z" ∈ WALL := tb6 (List.mem_of_getElem? (i := 98) rfl) rfl
theorem wl_6_100 : Cond.fieldLink RX9 31 "NarrowRingsModel$City" "gateNow" "[I" ∈ WALL := tb6 (List.mem_of_getElem? (i := 100) rfl) rfl
theorem wl_6_102 : Cond.fieldLink RX9 34 "NarrowRingsModel$City" "cartRing" "[I" ∈ WALL := tb6 (List.mem_of_getElem? (i := 102) rfl) rfl
theorem wl_6_104 : Cond.fieldLink RX9 37 "NarrowRingsModel$City" "bears" "[I" ∈ WALL := tb6 (List.mem_of_getElem? (i := 104) rfl) rfl
theorem wl_6_106 : Cond.fieldLink RX9 40 "NarrowRingsModel$City" "length" "[I" ∈ WALL := tb6 (List.mem_of_getElem? (i := 106) rfl) rfl
theorem wl_6_108 : Cond.fieldLink RX9 43 "NarrowRingsModel$City" "wide" "[I" ∈ WALL := tb6 (List.mem_of_getElem? (i := 108) rfl) rfl
theorem wl_6_110 : Cond.fieldLink RX9 46 "NarrowRingsModel$City" "high" "[I" ∈ WALL := tb6 (List.mem_of_getElem? (i := 110) rfl) rfl
theorem wl_6_112 : Cond.fieldLink RX9 49 "NarrowRingsModel$City" "weighs" "[I" ∈ WALL := tb6 (List.mem_of_getElem? (i := 112) rfl) rfl
theorem wl_6_114 : Cond.fieldLink RX9 52 "NarrowRingsModel$City" "parts" "[I" ∈ WALL := tb6 (List.mem_of_getElem? (i := 114) rfl) rfl
theorem wl_6_116 : Cond.fieldLink RX9 55 "NarrowRingsModel$City" "of" "[I" ∈ WALL := tb6 (List.mem_of_getElem? (i := 116) rfl) rfl
theorem wl_6_118 : Cond.fieldLink RX9 58 "NarrowRingsModel$City" "fromRing" "[I" ∈ WALL := tb6 (List.mem_of_getElem? (i := 118) rfl) rfl
theorem wl_6_120 : Cond.fieldLink RX9 61 "NarrowRingsModel$City" "fromPlace" "[I" ∈ WALL := tb6 (List.mem_of_getElem? (i := 120) rfl) rfl
theorem wl_6_122 : Cond.fieldLink RX9 64 "NarrowRingsModel$City" "toRing" "[I" ∈ WALL := tb6 (List.mem_of_getElem? (i := 122) rfl) rfl
theorem wl_6_124 : Cond.fieldLink RX9 67 "NarrowRingsModel$City" "toPlace" "[I" ∈ WALL := tb6 (List.mem_of_getElem? (i := 124) rfl) rfl
theorem wl_6_126 : Cond.fieldLink RX9 70 "NarrowRingsModel$City" "hour" "[I" ∈ WALL := tb6 (List.mem_of_getElem? (i := 126) rfl) rfl
theorem hd_X9_init : yX9_init.cls ≠ "java/lang/invoke/MethodHandle" ∧ yX9_init.cls ≠ "java/lang/invoke/VarHandle" ∧ (parseMethodDescriptor yX9_init.desc).map (fun d => d.parameters.length) = some 0 := by decide +kernel
set_option maxRecDepth 100000 in
set_option maxHeartbeats 4000000 in
theorem M_X9_init (l : Launch) : Mt l yX9_init (Cond.code yX9_init cX9_init 1 none :: WALL) { frames := 1, cells := 22, slots := 291, locals := 20 } [19] none T_X9_init := by
  refine Mt.mk (B := E_X9_init) (by decide +kernel) (by decide) (fun _ _ _ hh => hh) ?_
  intro X Q e1 e2 e3 hC hN hT
  subst e1
  have hC : CF X cX9_init RX9 WALL := hC
  refine (?_ : Sd X 0 [(0, 19)] [] (E_X9_init Q))
  unfold E_X9_init
  refine sd_aload_n hC 19 dX9_init_0 rfl (by decide) (by decide) (?_ : Sd X 1 [(0, 19)] [19] _)
  refine sd_objInit hC (by decide) wl_6_81 wl_1_29 wl_1_30 (by rw [e3]; decide) (by decide) dX9_init_1 (?_ : Sd X 4 [(0, 19)] [] _)
  refine sd_aload_n hC 19 dX9_init_4 rfl (by decide) (by decide) (?_ : Sd X 5 [(0, 19)] [19] _)
  refine sd_bipush hC dX9_init_5 (by decide) (?_ : Sd X 7 [(0, 19)] [0, 19] _)
  refine sd_newa hC (e := 0) (List.mem_of_getElem? (i := 0) rfl) (fun C z => by cases z) rfl (by decide) wl_1_76 (by rw [e3]) (by rw [e3]) dX9_init_7 (?_ : Sd X 9 [(0, 19)] [100, 19] _)
  refine sd_putF hC (ci := 9) (j := 6) (C := RX9) (T := TX9) (N := 28) tyX9 tyX9_ok nmX9 rfl rfl (by decide) in_X9 rfl rfl rfl hN wl_6_88 dX9_init_9 (?_ : Sd X 12 [(0, 19)] [] _)
  refine sd_aload_n hC 19 dX9_init_12 rfl (by decide) (by decide) (?_ : Sd X 13 [(0, 19)] [19] _)
  refine sd_bipush hC dX9_init_13 (by decide) (?_ : Sd X 15 [(0, 19)] [0, 19] _)
  refine sd_newa hC (e := 0) (List.mem_of_getElem? (i := 0) rfl) (fun C z => by cases z) rfl (by decide) wl_1_76 (by rw [e3]) (by rw [e3]) dX9_init_15 (?_ : Sd X 17 [(0, 19)] [100, 19] _)
  refine sd_putF hC (ci := 9) (j := 7) (C := RX9) (T := TX9) (N := 28) tyX9 tyX9_ok nmX9 rfl rfl (by decide) in_X9 rfl rfl rfl hN wl_6_90 dX9_init_17 (?_ : Sd X 20 [(0, 19)] [] _)
  refine sd_aload_n hC 19 dX9_init_20 rfl (by decide) (by decide) (?_ : Sd X 21 [(0, 19)] [19] _)
  refine sd_bipush hC dX9_init_21 (by decide) (?_ : Sd X 23 [(0, 19)] [0, 19] _)
  refine sd_newa hC (e := 0) (List.mem_of_getElem? (i := 0) rfl) (fun C z => by cases z) rfl (by decide) wl_1_76 (by rw [e3]) (by rw [e3]) dX9_init_23 (?_ : Sd X 25 [(0, 19)] [100, 19] _)
  refine sd_putF hC (ci := 9) (j := 8) (C := RX9) (T := TX9) (N := 28) tyX9 tyX9_ok nmX9 rfl rfl (by decide) in_X9 rfl rfl rfl hN wl_6_92 dX9_init_25 (?_ : Sd X 28 [(0, 19)] [] _)
  refine sd_aload_n hC 19 dX9_init_28 rfl (by decide) (by decide) (?_ : Sd X 29 [(0, 19)] [19] _)
  refine sd_bipush hC dX9_init_29 (by decide) (?_ : Sd X 31 [(0, 19)] [0, 19] _)
  refine sd_newa hC (e := 3) (List.mem_of_getElem? (i := 3) rfl) (fun C z => by cases z) rfl (by decide) wl_6_188 (by rw [e3]) (by rw [e3]) dX9_init_31 (?_ : Sd X 33 [(0, 19)] [103, 19] _)
  refine sd_putF hC (ci := 9) (j := 9) (C := RX9) (T := TX9) (N := 28) tyX9 tyX9_ok nmX9 rfl rfl (by decide) in_X9 rfl rfl rfl hN wl_6_94 dX9_init_33 (?_ : Sd X 36 [(0, 19)] [] _)
  refine sd_aload_n hC 19 dX9_init_36 rfl (by decide) (by decide) (?_ : Sd X 37 [(0, 19)] [19] _)
  refine sd_bipush hC dX9_init_37 (by decide) (?_ : Sd X 39 [(0, 19)] [0, 19] _)
  refine sd_newa hC (e := 3) (List.mem_of_getElem? (i := 3) rfl) (fun C z => by cases z) rfl (by decide) wl_6_188 (by rw [e3]) (by rw [e3]) dX9_init_39 (?_ : Sd X 41 [(0, 19)] [103, 19] _)
  refine sd_putF hC (ci := 9) (j := 10) (C := RX9) (T := TX9) (N := 28) tyX9 tyX9_ok nmX9 rfl rfl (by decide) in_X9 rfl rfl rfl hN wl_6_96 dX9_init_41 (?_ : Sd X 44 [(0, 19)] [] _)
  refine sd_aload_n hC 19 dX9_init_44 rfl (by decide) (by decide) (?_ : Sd X 45 [(0, 19)] [19] _)
  refine sd_bipush hC dX9_init_45 (by decide) (?_ : Sd X 47 [(0, 19)] [0, 19] _)
  refine sd_newa hC (e := 3) (List.mem_of_getElem? (i := 3) rfl) (fun C z => by cases z) rfl (by decide) wl_6_188 (by rw [e3]) (by rw [e3]) dX9_init_47 (?_ : Sd X 49 [(0, 19)] [103, 19] _)
  refine sd_putF hC (ci := 9) (j := 11) (C := RX9) (T := TX9) (N := 28) tyX9 tyX9_ok nmX9 rfl rfl (by decide) in_X9 rfl rfl rfl hN wl_6_98 dX9_init_49 (?_ : Sd X 52 [(0, 19)] [] _)
  refine sd_aload_n hC 19 dX9_init_52 rfl (by decide) (by decide) (?_ : Sd X 53 [(0, 19)] [19] _)
  refine sd_bipush hC dX9_init_53 (by decide) (?_ : Sd X 55 [(0, 19)] [0, 19] _)
  refine sd_newa hC (e := 0) (List.mem_of_getElem? (i := 0) rfl) (fun C z => by cases z) rfl (by decide) wl_1_76 (by rw [e3]) (by rw [e3]) dX9_init_55 (?_ : Sd X 57 [(0, 19)] [100, 19] _)
  refine sd_putF hC (ci := 9) (j := 12) (C := RX9) (T := TX9) (N := 28) tyX9 tyX9_ok nmX9 rfl rfl (by decide) in_X9 rfl rfl rfl hN wl_6_100 dX9_init_57 (?_ : Sd X 60 [(0, 19)] [] _)
  refine sd_aload_n hC 19 dX9_init_60 rfl (by decide) (by decide) (?_ : Sd X 61 [(0, 19)] [19] _)
  refine sd_bipush hC dX9_init_61 (by decide) (?_ : Sd X 63 [(0, 19)] [0, 19] _)
  refine sd_newa hC (e := 0) (List.mem_of_getElem? (i := 0) rfl) (fun C z => by cases z) rfl (by decide) wl_1_76 (by rw [e3]) (by rw [e3]) dX9_init_63 (?_ : Sd X 65 [(0, 19)] [100, 19] _)
  refine sd_putF hC (ci := 9) (j := 13) (C := RX9) (T := TX9) (N := 28) tyX9 tyX9_ok nmX9 rfl rfl (by decide) in_X9 rfl rfl rfl hN wl_6_102 dX9_init_65 (?_ : Sd X 68 [(0, 19)] [] _)
  refine sd_aload_n hC 19 dX9_init_68 rfl (by decide) (by decide) (?_ : Sd X 69 [(0, 19)] [19] _)
  refine sd_bipush hC dX9_init_69 (by decide) (?_ : Sd X 71 [(0, 19)] [0, 19] _)
  refine sd_newa hC (e := 0) (List.mem_of_getElem? (i := 0) rfl) (fun C z => by cases z) rfl (by decide) wl_1_76 (by rw [e3]) (by rw [e3]) dX9_init_71 (?_ : Sd X 73 [(0, 19)] [100, 19] _)
  refine sd_putF hC (ci := 9) (j := 14) (C := RX9) (T := TX9) (N := 28) tyX9 tyX9_ok nmX9 rfl rfl (by decide) in_X9 rfl rfl rfl hN wl_6_104 dX9_init_73 (?_ : Sd X 76 [(0, 19)] [] _)
  refine sd_aload_n hC 19 dX9_init_76 rfl (by decide) (by decide) (?_ : Sd X 77 [(0, 19)] [19] _)
  refine sd_bipush hC dX9_init_77 (by decide) (?_ : Sd X 79 [(0, 19)] [0, 19] _)
  refine sd_newa hC (e := 0) (List.mem_of_getElem? (i := 0) rfl) (fun C z => by cases z) rfl (by decide) wl_1_76 (by rw [e3]) (by rw [e3]) dX9_init_79 (?_ : Sd X 81 [(0, 19)] [100, 19] _)
  refine sd_putF hC (ci := 9) (j := 15) (C := RX9) (T := TX9) (N := 28) tyX9 tyX9_ok nmX9 rfl rfl (by decide) in_X9 rfl rfl rfl hN wl_6_106 dX9_init_81 (?_ : Sd X 84 [(0, 19)] [] _)
  refine sd_aload_n hC 19 dX9_init_84 rfl (by decide) (by decide) (?_ : Sd X 85 [(0, 19)] [19] _)
  refine sd_bipush hC dX9_init_85 (by decide) (?_ : Sd X 87 [(0, 19)] [0, 19] _)
  refine sd_newa hC (e := 0) (List.mem_of_getElem? (i := 0) rfl) (fun C z => by cases z) rfl (by decide) wl_1_76 (by rw [e3]) (by rw [e3]) dX9_init_87 (?_ : Sd X 89 [(0, 19)] [100, 19] _)
  refine sd_putF hC (ci := 9) (j := 16) (C := RX9) (T := TX9) (N := 28) tyX9 tyX9_ok nmX9 rfl rfl (by decide) in_X9 rfl rfl rfl hN wl_6_108 dX9_init_89 (?_ : Sd X 92 [(0, 19)] [] _)
  refine sd_aload_n hC 19 dX9_init_92 rfl (by decide) (by decide) (?_ : Sd X 93 [(0, 19)] [19] _)
  refine sd_bipush hC dX9_init_93 (by decide) (?_ : Sd X 95 [(0, 19)] [0, 19] _)
  refine sd_newa hC (e := 0) (List.mem_of_getElem? (i := 0) rfl) (fun C z => by cases z) rfl (by decide) wl_1_76 (by rw [e3]) (by rw [e3]) dX9_init_95 (?_ : Sd X 97 [(0, 19)] [100, 19] _)
  refine sd_putF hC (ci := 9) (j := 17) (C := RX9) (T := TX9) (N := 28) tyX9 tyX9_ok nmX9 rfl rfl (by decide) in_X9 rfl rfl rfl hN wl_6_110 dX9_init_97 (?_ : Sd X 100 [(0, 19)] [] _)
  refine sd_aload_n hC 19 dX9_init_100 rfl (by decide) (by decide) (?_ : Sd X 101 [(0, 19)] [19] _)
  refine sd_bipush hC dX9_init_101 (by decide) (?_ : Sd X 103 [(0, 19)] [0, 19] _)
  refine sd_newa hC (e := 0) (List.mem_of_getElem? (i := 0) rfl) (fun C z => by cases z) rfl (by decide) wl_1_76 (by rw [e3]) (by rw [e3]) dX9_init_103 (?_ : Sd X 105 [(0, 19)] [100, 19] _)
  refine sd_putF hC (ci := 9) (j := 18) (C := RX9) (T := TX9) (N := 28) tyX9 tyX9_ok nmX9 rfl rfl (by decide) in_X9 rfl rfl rfl hN wl_6_112 dX9_init_105 (?_ : Sd X 108 [(0, 19)] [] _)
  refine sd_aload_n hC 19 dX9_init_108 rfl (by decide) (by decide) (?_ : Sd X 109 [(0, 19)] [19] _)
  refine sd_bipush hC dX9_init_109 (by decide) (?_ : Sd X 111 [(0, 19)] [0, 19] _)
  refine sd_newa hC (e := 0) (List.mem_of_getElem? (i := 0) rfl) (fun C z => by cases z) rfl (by decide) wl_1_76 (by rw [e3]) (by rw [e3]) dX9_init_111 (?_ : Sd X 113 [(0, 19)] [100, 19] _)
  refine sd_putF hC (ci := 9) (j := 19) (C := RX9) (T := TX9) (N := 28) tyX9 tyX9_ok nmX9 rfl rfl (by decide) in_X9 rfl rfl rfl hN wl_6_114 dX9_init_113 (?_ : Sd X 116 [(0, 19)] [] _)
  refine sd_aload_n hC 19 dX9_init_116 rfl (by decide) (by decide) (?_ : Sd X 117 [(0, 19)] [19] _)
  refine sd_bipush hC dX9_init_117 (by decide) (?_ : Sd X 119 [(0, 19)] [0, 19] _)
  refine sd_newa hC (e := 0) (List.mem_of_getElem? (i := 0) rfl) (fun C z => by cases z) rfl (by decide) wl_1_76 (by rw [e3]) (by rw [e3]) dX9_init_119 (?_ : Sd X 121 [(0, 19)] [100, 19] _)
  refine sd_putF hC (ci := 9) (j := 20) (C := RX9) (T := TX9) (N := 28) tyX9 tyX9_ok nmX9 rfl rfl (by decide) in_X9 rfl rfl rfl hN wl_6_116 dX9_init_121 (?_ : Sd X 124 [(0, 19)] [] _)
  refine sd_aload_n hC 19 dX9_init_124 rfl (by decide) (by decide) (?_ : Sd X 125 [(0, 19)] [19] _)
  refine sd_bipush hC dX9_init_125 (by decide) (?_ : Sd X 127 [(0, 19)] [0, 19] _)
  refine sd_newa hC (e := 0) (List.mem_of_getElem? (i := 0) rfl) (fun C z => by cases z) rfl (by decide) wl_1_76 (by rw [e3]) (by rw [e3]) dX9_init_127 (?_ : Sd X 129 [(0, 19)] [100, 19] _)
  refine sd_putF hC (ci := 9) (j := 21) (C := RX9) (T := TX9) (N := 28) tyX9 tyX9_ok nmX9 rfl rfl (by decide) in_X9 rfl rfl rfl hN wl_6_118 dX9_init_129 (?_ : Sd X 132 [(0, 19)] [] _)
  refine sd_aload_n hC 19 dX9_init_132 rfl (by decide) (by decide) (?_ : Sd X 133 [(0, 19)] [19] _)
  refine sd_bipush hC dX9_init_133 (by decide) (?_ : Sd X 135 [(0, 19)] [0, 19] _)
  refine sd_newa hC (e := 0) (List.mem_of_getElem? (i := 0) rfl) (fun C z => by cases z) rfl (by decide) wl_1_76 (by rw [e3]) (by rw [e3]) dX9_init_135 (?_ : Sd X 137 [(0, 19)] [100, 19] _)
  refine sd_putF hC (ci := 9) (j := 22) (C := RX9) (T := TX9) (N := 28) tyX9 tyX9_ok nmX9 rfl rfl (by decide) in_X9 rfl rfl rfl hN wl_6_120 dX9_init_137 (?_ : Sd X 140 [(0, 19)] [] _)
  refine sd_aload_n hC 19 dX9_init_140 rfl (by decide) (by decide) (?_ : Sd X 141 [(0, 19)] [19] _)
  refine sd_bipush hC dX9_init_141 (by decide) (?_ : Sd X 143 [(0, 19)] [0, 19] _)
  refine sd_newa hC (e := 0) (List.mem_of_getElem? (i := 0) rfl) (fun C z => by cases z) rfl (by decide) wl_1_76 (by rw [e3]) (by rw [e3]) dX9_init_143 (?_ : Sd X 145 [(0, 19)] [100, 19] _)
  refine sd_putF hC (ci := 9) (j := 23) (C := RX9) (T := TX9) (N := 28) tyX9 tyX9_ok nmX9 rfl rfl (by decide) in_X9 rfl rfl rfl hN wl_6_122 dX9_init_145 (?_ : Sd X 148 [(0, 19)] [] _)
  refine sd_aload_n hC 19 dX9_init_148 rfl (by decide) (by decide) (?_ : Sd X 149 [(0, 19)] [19] _)
  refine sd_bipush hC dX9_init_149 (by decide) (?_ : Sd X 151 [(0, 19)] [0, 19] _)
  refine sd_newa hC (e := 0) (List.mem_of_getElem? (i := 0) rfl) (fun C z => by cases z) rfl (by decide) wl_1_76 (by rw [e3]) (by rw [e3]) dX9_init_151 (?_ : Sd X 153 [(0, 19)] [100, 19] _)
  refine sd_putF hC (ci := 9) (j := 24) (C := RX9) (T := TX9) (N := 28) tyX9 tyX9_ok nmX9 rfl rfl (by decide) in_X9 rfl rfl rfl hN wl_6_124 dX9_init_153 (?_ : Sd X 156 [(0, 19)] [] _)
  refine sd_aload_n hC 19 dX9_init_156 rfl (by decide) (by decide) (?_ : Sd X 157 [(0, 19)] [19] _)
  refine sd_bipush hC dX9_init_157 (by decide) (?_ : Sd X 159 [(0, 19)] [0, 19] _)
  refine sd_newa hC (e := 0) (List.mem_of_getElem? (i := 0) rfl) (fun C z => by cases z) rfl (by decide) wl_1_76 (by rw [e3]) (by rw [e3]) dX9_init_159 (?_ : Sd X 161 [(0, 19)] [100, 19] _)
  refine sd_putF hC (ci := 9) (j := 25) (C := RX9) (T := TX9) (N := 28) tyX9 tyX9_ok nmX9 rfl rfl (by decide) in_X9 rfl rfl rfl hN wl_6_126 dX9_init_161 (?_ : Sd X 164 [(0, 19)] [] _)
  refine sd_aload_n hC 19 dX9_init_164 rfl (by decide) (by decide) (?_ : Sd X 165 [(0, 19)] [19] _)
  refine sd_bipush hC dX9_init_165 (by decide) (?_ : Sd X 167 [(0, 19)] [0, 19] _)
  refine sd_newa hC (e := 1) (List.mem_of_getElem? (i := 1) rfl) (fun C z => by cases z) rfl (by decide) wl_1_199 (by rw [e3]) (by rw [e3]) dX9_init_167 (?_ : Sd X 169 [(0, 19)] [101, 19] _)
  refine sd_putF hC (ci := 9) (j := 26) (C := RX9) (T := TX9) (N := 28) tyX9 tyX9_ok nmX9 rfl rfl (by decide) in_X9 rfl rfl rfl hN wl_6_128 dX9_init_169 (?_ : Sd X 172 [(0, 19)] [] _)
  refine sd_aload_n hC 19 dX9_init_172 rfl (by decide) (by decide) (?_ : Sd X 173 [(0, 19)] [19] _)
  refine sd_bipush hC dX9_init_173 (by decide) (?_ : Sd X 175 [(0, 19)] [0, 19] _)
  refine sd_newa hC (e := 0) (List.mem_of_getElem? (i := 0) rfl) (fun C z => by cases z) rfl (by decide) wl_1_76 (by rw [e3]) (by rw [e3]) dX9_init_175 (?_ : Sd X 177 [(0, 19)] [100, 19] _)
  refine sd_putF hC (ci := 9) (j := 27) (C := RX9) (T := TX9) (N := 28) tyX9 tyX9_ok nmX9 rfl rfl (by decide) in_X9 rfl rfl rfl hN wl_6_129 dX9_init_177 (?_ : Sd X 180 [(0, 19)] [] _)
  exact sd_return hC hT dX9_init_180

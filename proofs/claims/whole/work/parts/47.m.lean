theorem hd_X8_fault : yX8_fault.cls ≠ "java/lang/invoke/MethodHandle" ∧ yX8_fault.cls ≠ "java/lang/invoke/VarHandle" ∧ (parseMethodDescriptor yX8_fault.desc).map (fun d => d.parameters.length) = some 0 := by decide +kernel
set_option maxRecDepth 100000 in
set_option maxHeartbeats 4000000 in
theorem M_X8_fault (l : Launch) : MtS l yX8_fault (Cond.code yX8_fault cX8_fault 1 (some .int) :: WALL) { frames := 0, cells := 0, slots := 0, locals := 0 } [18] (some 0) T_X8_fault := by
  refine MtS.mk (B := E_X8_fault) (by decide +kernel) (by decide) (fun _ _ _ hh => hh) ?_
  intro X Q e1 e2 e3 hC hN hT
  subst e1
  have hC : CF X cX8_fault RX8 WALL := hC
  refine (?_ : SdS X 0 [(0, 18)] [] (E_X8_fault Q))
  unfold E_X8_fault
  refine su_aload_n hC 18 dX8_fault_0 rfl (by decide) (by decide) (?_ : SdS X 1 [(0, 18)] [18] _)
  refine su_getF hC (ci := 8) (j := 15) (C := RX8) (T := TX8) (N := 18) rfl rfl (by decide) in_X8 wl_2_123 rfl dX8_fault_1 (?_ : SdS X 4 [(0, 18)] [0] _)
  exact su_ireturn hC hT dX8_fault_4
theorem wl_2_167 : Cond.methodLink RX8 93 yX8_append ∈ WALL := tb2 (List.mem_of_getElem? (i := 167) rfl) rfl
theorem wl_2_169 : Cond.instanceMethod yX8_append ∈ WALL := tb2 (List.mem_of_getElem? (i := 169) rfl) rfl
theorem wp_0 : Cond.selects RX8 yX8_append yX8_append ∈ WALL := tbS (List.mem_of_getElem? (i := 0) rfl)
theorem wl_2_170 : Cond.code yX8_append cX8_append 3 none ∈ WALL := tb2 (List.mem_of_getElem? (i := 170) rfl) rfl
theorem hd_X8_feed : yX8_feed.cls ≠ "java/lang/invoke/MethodHandle" ∧ yX8_feed.cls ≠ "java/lang/invoke/VarHandle" ∧ (parseMethodDescriptor yX8_feed.desc).map (fun d => d.parameters.length) = some 5 := by decide +kernel
set_option maxRecDepth 100000 in
set_option maxHeartbeats 4000000 in
theorem M_X8_feed (l : Launch) : MtS l yX8_feed (Cond.code yX8_feed cX8_feed 6 (some .int) :: WALL) { frames := 1, cells := 0, slots := 0, locals := 22 } [18, 0, 0, 0, 0, 0] (some 0) T_X8_feed := by
  refine MtS.mk (B := E_X8_feed) (by decide +kernel) (by decide) (fun _ _ _ hh => hh) ?_
  intro X Q e1 e2 e3 hC hN hT
  subst e1
  have hC : CF X cX8_feed RX8 WALL := hC
  refine (?_ : SdS X 0 [(0, 18), (1, 0), (2, 0), (3, 0), (4, 0), (5, 0)] [] (E_X8_feed Q))
  unfold E_X8_feed
  refine su_aload_n hC 18 dX8_feed_0 rfl (by decide) (by decide) (?_ : SdS X 1 [(0, 18), (1, 0), (2, 0), (3, 0), (4, 0), (5, 0)] [18] _)
  refine su_getF hC (ci := 8) (j := 1) (C := RX8) (T := TX8) (N := 18) rfl rfl (by decide) in_X8 wl_2_109 rfl dX8_feed_1 (?_ : SdS X 4 [(0, 18), (1, 0), (2, 0), (3, 0), (4, 0), (5, 0)] [0] _)
  refine su_bipush hC dX8_feed_4 (by decide) (?_ : SdS X 6 [(0, 18), (1, 0), (2, 0), (3, 0), (4, 0), (5, 0)] [0, 0] _)
  refine su_iadd hC dX8_feed_6 (?_ : SdS X 7 [(0, 18), (1, 0), (2, 0), (3, 0), (4, 0), (5, 0)] [0] _)
  refine su_sipush hC dX8_feed_7 (by decide) (?_ : SdS X 10 [(0, 18), (1, 0), (2, 0), (3, 0), (4, 0), (5, 0)] [0, 0] _)
  refine su_icmp_le (tgt := 15) hC dX8_feed_10 rfl (?_ : SdS X 15 [(0, 18), (1, 0), (2, 0), (3, 0), (4, 0), (5, 0)] [] _) (?_ : SdS X 13 [(0, 18), (1, 0), (2, 0), (3, 0), (4, 0), (5, 0)] [] _)
  · refine su_aload_n hC 18 dX8_feed_15 rfl (by decide) (by decide) (?_ : SdS X 16 [(0, 18), (1, 0), (2, 0), (3, 0), (4, 0), (5, 0)] [18] _)
    refine su_iload_n hC dX8_feed_16 rfl (by decide) (?_ : SdS X 17 [(0, 18), (1, 0), (2, 0), (3, 0), (4, 0), (5, 0)] [0, 18] _)
    refine su_inv0v (τ := []) (τr := [0]) (ci := 8) (q := (RX8, TX8, 18)) hC WG (M_X8_append _) rfl rfl rfl rfl  rfl rfl wl_2_167 wl_2_169 wp_0 wl_1_1 wl_2_170 hd_X8_append (by rw [e3]; decide) (by decide) dX8_feed_17 (?_ : SdS X 20 [(0, 18), (1, 0), (2, 0), (3, 0), (4, 0), (5, 0)] [] _)
    refine su_aload_n hC 18 dX8_feed_20 rfl (by decide) (by decide) (?_ : SdS X 21 [(0, 18), (1, 0), (2, 0), (3, 0), (4, 0), (5, 0)] [18] _)
    refine su_iload_n hC dX8_feed_21 rfl (by decide) (?_ : SdS X 22 [(0, 18), (1, 0), (2, 0), (3, 0), (4, 0), (5, 0)] [0, 18] _)
    refine su_inv0v (τ := []) (τr := [0]) (ci := 8) (q := (RX8, TX8, 18)) hC WG (M_X8_append _) rfl rfl rfl rfl  rfl rfl wl_2_167 wl_2_169 wp_0 wl_1_1 wl_2_170 hd_X8_append (by rw [e3]; decide) (by decide) dX8_feed_22 (?_ : SdS X 25 [(0, 18), (1, 0), (2, 0), (3, 0), (4, 0), (5, 0)] [] _)
    refine su_aload_n hC 18 dX8_feed_25 rfl (by decide) (by decide) (?_ : SdS X 26 [(0, 18), (1, 0), (2, 0), (3, 0), (4, 0), (5, 0)] [18] _)
    refine su_iload_n hC dX8_feed_26 rfl (by decide) (?_ : SdS X 27 [(0, 18), (1, 0), (2, 0), (3, 0), (4, 0), (5, 0)] [0, 18] _)
    refine su_inv0v (τ := []) (τr := [0]) (ci := 8) (q := (RX8, TX8, 18)) hC WG (M_X8_append _) rfl rfl rfl rfl  rfl rfl wl_2_167 wl_2_169 wp_0 wl_1_1 wl_2_170 hd_X8_append (by rw [e3]; decide) (by decide) dX8_feed_27 (?_ : SdS X 30 [(0, 18), (1, 0), (2, 0), (3, 0), (4, 0), (5, 0)] [] _)
    refine su_aload_n hC 18 dX8_feed_30 rfl (by decide) (by decide) (?_ : SdS X 31 [(0, 18), (1, 0), (2, 0), (3, 0), (4, 0), (5, 0)] [18] _)
    refine su_iload hC dX8_feed_31 (by decide) (?_ : SdS X 33 [(0, 18), (1, 0), (2, 0), (3, 0), (4, 0), (5, 0)] [0, 18] _)
    refine su_inv0v (τ := []) (τr := [0]) (ci := 8) (q := (RX8, TX8, 18)) hC WG (M_X8_append _) rfl rfl rfl rfl  rfl rfl wl_2_167 wl_2_169 wp_0 wl_1_1 wl_2_170 hd_X8_append (by rw [e3]; decide) (by decide) dX8_feed_33 (?_ : SdS X 36 [(0, 18), (1, 0), (2, 0), (3, 0), (4, 0), (5, 0)] [] _)
    refine su_aload_n hC 18 dX8_feed_36 rfl (by decide) (by decide) (?_ : SdS X 37 [(0, 18), (1, 0), (2, 0), (3, 0), (4, 0), (5, 0)] [18] _)
    refine su_iload hC dX8_feed_37 (by decide) (?_ : SdS X 39 [(0, 18), (1, 0), (2, 0), (3, 0), (4, 0), (5, 0)] [0, 18] _)
    refine su_inv0v (τ := []) (τr := [0]) (ci := 8) (q := (RX8, TX8, 18)) hC WG (M_X8_append _) rfl rfl rfl rfl  rfl rfl wl_2_167 wl_2_169 wp_0 wl_1_1 wl_2_170 hd_X8_append (by rw [e3]; decide) (by decide) dX8_feed_39 (?_ : SdS X 42 [(0, 18), (1, 0), (2, 0), (3, 0), (4, 0), (5, 0)] [] _)
    refine su_aload_n hC 18 dX8_feed_42 rfl (by decide) (by decide) (?_ : SdS X 43 [(0, 18), (1, 0), (2, 0), (3, 0), (4, 0), (5, 0)] [18] _)
    refine su_getF hC (ci := 8) (j := 1) (C := RX8) (T := TX8) (N := 18) rfl rfl (by decide) in_X8 wl_2_109 rfl dX8_feed_43 (?_ : SdS X 46 [(0, 18), (1, 0), (2, 0), (3, 0), (4, 0), (5, 0)] [0] _)
    exact su_ireturn hC hT dX8_feed_46
  · refine su_iconst hC dX8_feed_13 ⟨by decide, by decide⟩ (?_ : SdS X 14 [(0, 18), (1, 0), (2, 0), (3, 0), (4, 0), (5, 0)] [0] _)
    exact su_ireturn hC hT dX8_feed_14
theorem wl_1_117 : Cond.fieldLink RX8 147 "NarrowRings$City" "whole" "[LNarrowRings$Thing;" ∈ WALL := tb1 (List.mem_of_getElem? (i := 117) rfl) rfl
theorem wl_4_21 : Cond.methodLink RX8 151 yX6_canLie ∈ WALL := tb4 (List.mem_of_getElem? (i := 21) rfl) rfl
theorem wl_4_23 : Cond.methodLink RX8 158 yX1_ringTakes ∈ WALL := tb4 (List.mem_of_getElem? (i := 23) rfl) rfl
theorem wl_4_24 : Cond.instanceMethod yX1_ringTakes ∈ WALL := tb4 (List.mem_of_getElem? (i := 24) rfl) rfl
theorem wl_4_25 : Cond.selects RX1 yX1_ringTakes yX1_ringTakes ∈ WALL := tb4 (List.mem_of_getElem? (i := 25) rfl) rfl
theorem wl_4_26 : Cond.code yX1_ringTakes cX1_ringTakes 4 (some .boolean) ∈ WALL := tb4 (List.mem_of_getElem? (i := 26) rfl) rfl
theorem wl_4_22 : Cond.methodLink RX8 154 yX1_meets ∈ WALL := tb4 (List.mem_of_getElem? (i := 22) rfl) rfl
theorem hd_X8_fits : yX8_fits.cls ≠ "java/lang/invoke/MethodHandle" ∧ yX8_fits.cls ≠ "java/lang/invoke/VarHandle" ∧ (parseMethodDescriptor yX8_fits.desc).map (fun d => d.parameters.length) = some 4 := by decide +kernel
set_option maxRecDepth 100000 in
set_option maxHeartbeats 4000000 in
theorem M_X8_fits (l : Launch) : MtS l yX8_fits (Cond.code yX8_fits cX8_fits 8 (some .int) :: WALL) { frames := 2, cells := 0, slots := 0, locals := 42 } [18, 0, 0, 0, 0] (some 0) T_X8_fits := by
  refine MtS.mk (B := E_X8_fits) (by decide +kernel) (by decide) (fun _ _ _ hh => hh) ?_
  intro X Q e1 e2 e3 hC hN hT
  subst e1
  have hC : CF X cX8_fits RX8 WALL := hC
  have S_41 : SdS X 41 [(0, 18), (1, 0), (2, 0), (3, 0), (4, 0), (5, 0)] [] (B_X8_fits_41 Q) := by
    unfold B_X8_fits_41
    refine su_aload_n hC 18 dX8_fits_41 rfl (by decide) (by decide) (?_ : SdS X 42 [(0, 18), (1, 0), (2, 0), (3, 0), (4, 0), (5, 0)] [18] _)
    refine su_iconst hC dX8_fits_42 ⟨by decide, by decide⟩ (?_ : SdS X 43 [(0, 18), (1, 0), (2, 0), (3, 0), (4, 0), (5, 0)] [0, 18] _)
    refine su_inv0 (τ := []) (τr := [0]) (ci := 8) (q := (RX8, TX8, 18)) hC WG (M_X8_refuse _) rfl rfl rfl rfl  rfl rfl wl_2_175 wl_2_177 wp_1 wl_1_1 wl_2_178 hd_X8_refuse (by rw [e3]; decide) (by decide) dX8_fits_43 (?_ : SdS X 46 [(0, 18), (1, 0), (2, 0), (3, 0), (4, 0), (5, 0)] [0] _)
    exact su_ireturn hC hT dX8_fits_46
  have S_126 : SdS X 126 [(0, 18), (1, 0), (2, 0), (3, 0), (4, 0), (5, 0), (6, 16), (7, 0)] [0, 18] (B_X8_fits_126 Q) := by
    unfold B_X8_fits_126
    refine su_inv0 (τ := []) (τr := [0]) (ci := 8) (q := (RX8, TX8, 18)) hC WG (M_X8_grant _) rfl rfl rfl rfl  rfl rfl wl_3_225 wl_3_227 wp_34 wl_1_1 wl_3_228 hd_X8_grant (by rw [e3]; decide) (by decide) dX8_fits_126 (?_ : SdS X 129 [(0, 18), (1, 0), (2, 0), (3, 0), (4, 0), (5, 0), (6, 16), (7, 0)] [0] _)
    exact su_ireturn hC hT dX8_fits_129
  have S_113 : SdS X 113 [(0, 18), (1, 0), (2, 0), (3, 0), (4, 0), (5, 0), (6, 16)] [0] (B_X8_fits_113 Q) := by
    unfold B_X8_fits_113
    refine su_istore (Γ' := [(0, 18), (1, 0), (2, 0), (3, 0), (4, 0), (5, 0), (6, 16), (7, 0)]) hC dX8_fits_113 (by rw [e2]; decide) (by decide) (?_ : SdS X 115 [(0, 18), (1, 0), (2, 0), (3, 0), (4, 0), (5, 0), (6, 16), (7, 0)] [] _)
    refine su_aload_n hC 18 dX8_fits_115 rfl (by decide) (by decide) (?_ : SdS X 116 [(0, 18), (1, 0), (2, 0), (3, 0), (4, 0), (5, 0), (6, 16), (7, 0)] [18] _)
    refine su_iload hC dX8_fits_116 (by decide) (?_ : SdS X 118 [(0, 18), (1, 0), (2, 0), (3, 0), (4, 0), (5, 0), (6, 16), (7, 0)] [0, 18] _)
    refine su_if_eq (tgt := 125) hC dX8_fits_118 rfl (?_ : SdS X 125 [(0, 18), (1, 0), (2, 0), (3, 0), (4, 0), (5, 0), (6, 16), (7, 0)] [18] _) (?_ : SdS X 121 [(0, 18), (1, 0), (2, 0), (3, 0), (4, 0), (5, 0), (6, 16), (7, 0)] [18] _)
    · refine su_iconst hC dX8_fits_125 ⟨by decide, by decide⟩ (?_ : SdS X 126 [(0, 18), (1, 0), (2, 0), (3, 0), (4, 0), (5, 0), (6, 16), (7, 0)] [0, 18] _)
      exact SdS.weak (by decide) (S_126)
    · refine su_iconst hC dX8_fits_121 ⟨by decide, by decide⟩ (?_ : SdS X 122 [(0, 18), (1, 0), (2, 0), (3, 0), (4, 0), (5, 0), (6, 16), (7, 0)] [0, 18] _)
      refine su_goto (tgt := 126) hC dX8_fits_122 rfl (?_ : SdS X 126 [(0, 18), (1, 0), (2, 0), (3, 0), (4, 0), (5, 0), (6, 16), (7, 0)] [0, 18] _)
      exact SdS.weak (by decide) (S_126)
  have S_17 : SdS X 17 [(0, 18), (1, 0), (2, 0), (3, 0), (4, 0)] [0] (B_X8_fits_17 Q) := by
    unfold B_X8_fits_17
    refine su_istore (Γ' := [(0, 18), (1, 0), (2, 0), (3, 0), (4, 0), (5, 0)]) hC dX8_fits_17 (by rw [e2]; decide) (by decide) (?_ : SdS X 19 [(0, 18), (1, 0), (2, 0), (3, 0), (4, 0), (5, 0)] [] _)
    refine su_aload_n hC 18 dX8_fits_19 rfl (by decide) (by decide) (?_ : SdS X 20 [(0, 18), (1, 0), (2, 0), (3, 0), (4, 0), (5, 0)] [18] _)
    refine su_iload_n hC dX8_fits_20 rfl (by decide) (?_ : SdS X 21 [(0, 18), (1, 0), (2, 0), (3, 0), (4, 0), (5, 0)] [0, 18] _)
    refine su_inv0 (τ := []) (τr := [0]) (ci := 8) (q := (RX8, TX8, 18)) hC WG (M_X8_isGood _) rfl rfl rfl rfl  rfl rfl wl_4_17 wl_4_19 wp_37 wl_1_1 wl_4_20 hd_X8_isGood (by rw [e3]; decide) (by decide) dX8_fits_21 (?_ : SdS X 24 [(0, 18), (1, 0), (2, 0), (3, 0), (4, 0), (5, 0)] [0] _)
    refine su_if_eq (tgt := 41) hC dX8_fits_24 rfl (?_ : SdS X 41 [(0, 18), (1, 0), (2, 0), (3, 0), (4, 0), (5, 0)] [] _) (?_ : SdS X 27 [(0, 18), (1, 0), (2, 0), (3, 0), (4, 0), (5, 0)] [] _)
    · exact SdS.weak (by decide) (S_41)
    · refine su_iload hC dX8_fits_27 (by decide) (?_ : SdS X 29 [(0, 18), (1, 0), (2, 0), (3, 0), (4, 0), (5, 0)] [0] _)
      refine su_if_eq (tgt := 41) hC dX8_fits_29 rfl (?_ : SdS X 41 [(0, 18), (1, 0), (2, 0), (3, 0), (4, 0), (5, 0)] [] _) (?_ : SdS X 32 [(0, 18), (1, 0), (2, 0), (3, 0), (4, 0), (5, 0)] [] _)
      · exact SdS.weak (by decide) (S_41)
      · refine su_iload hC dX8_fits_32 (by decide) (?_ : SdS X 34 [(0, 18), (1, 0), (2, 0), (3, 0), (4, 0), (5, 0)] [0] _)
        refine su_iconst hC dX8_fits_34 ⟨by decide, by decide⟩ (?_ : SdS X 35 [(0, 18), (1, 0), (2, 0), (3, 0), (4, 0), (5, 0)] [0, 0] _)
        refine su_invs (τ := []) (τs := [0, 0]) hC false "" WG (M_X8_within _) rfl rfl rfl rfl wl_4_6 wl_4_7 wl_1_1 wl_4_8 hd_X8_within (by rw [e3]; decide) (by decide) dX8_fits_35 (?_ : SdS X 38 [(0, 18), (1, 0), (2, 0), (3, 0), (4, 0), (5, 0)] [0] _)
        refine su_if_ne (tgt := 47) hC dX8_fits_38 rfl (?_ : SdS X 47 [(0, 18), (1, 0), (2, 0), (3, 0), (4, 0), (5, 0)] [] _) (?_ : SdS X 41 [(0, 18), (1, 0), (2, 0), (3, 0), (4, 0), (5, 0)] [] _)
        · refine su_aload_n hC 18 dX8_fits_47 rfl (by decide) (by decide) (?_ : SdS X 48 [(0, 18), (1, 0), (2, 0), (3, 0), (4, 0), (5, 0)] [18] _)
          refine su_getR hC (ci := 8) (j := 2) (C := RX8) (T := TX8) (N := 18) rfl rfl (by decide) in_X8 wl_2_110 rfl dX8_fits_48 (?_ : SdS X 51 [(0, 18), (1, 0), (2, 0), (3, 0), (4, 0), (5, 0)] [11] _)
          refine su_getR hC (ci := 1) (j := 10) (C := RX1) (T := TX1) (N := 12) rfl rfl (by decide) in_X1 wl_1_117 rfl dX8_fits_51 (?_ : SdS X 54 [(0, 18), (1, 0), (2, 0), (3, 0), (4, 0), (5, 0)] [116] _)
          refine su_iload_n hC dX8_fits_54 rfl (by decide) (?_ : SdS X 55 [(0, 18), (1, 0), (2, 0), (3, 0), (4, 0), (5, 0)] [0, 116] _)
          refine su_aaload (e := 16) hC (List.mem_of_getElem? (i := 5) rfl) rfl rfl rfl dX8_fits_55 (?_ : SdS X 56 [(0, 18), (1, 0), (2, 0), (3, 0), (4, 0), (5, 0)] [16] _)
          refine su_astore (Γ' := [(0, 18), (1, 0), (2, 0), (3, 0), (4, 0), (5, 0), (6, 16)]) hC dX8_fits_56 (by decide) (by rw [e2]; decide) (by decide) (?_ : SdS X 58 [(0, 18), (1, 0), (2, 0), (3, 0), (4, 0), (5, 0), (6, 16)] [] _)
          refine su_aload hC 16 dX8_fits_58 (by decide) (by decide) (?_ : SdS X 60 [(0, 18), (1, 0), (2, 0), (3, 0), (4, 0), (5, 0), (6, 16)] [16] _)
          refine su_iload hC dX8_fits_60 (by decide) (?_ : SdS X 62 [(0, 18), (1, 0), (2, 0), (3, 0), (4, 0), (5, 0), (6, 16)] [0, 16] _)
          refine su_inv0 (τ := []) (τr := [0]) (ci := 6) (q := (RX6, TX6, 7)) hC WG (M_X6_canLie _) rfl rfl rfl rfl  rfl rfl wl_4_21 wl_3_174 wl_3_175 wl_1_3 wl_3_176 hd_X6_canLie (by rw [e3]; decide) (by decide) dX8_fits_62 (?_ : SdS X 65 [(0, 18), (1, 0), (2, 0), (3, 0), (4, 0), (5, 0), (6, 16)] [0] _)
          refine su_if_ne (tgt := 74) hC dX8_fits_65 rfl (?_ : SdS X 74 [(0, 18), (1, 0), (2, 0), (3, 0), (4, 0), (5, 0), (6, 16)] [] _) (?_ : SdS X 68 [(0, 18), (1, 0), (2, 0), (3, 0), (4, 0), (5, 0), (6, 16)] [] _)
          · refine su_iload_n hC dX8_fits_74 rfl (by decide) (?_ : SdS X 75 [(0, 18), (1, 0), (2, 0), (3, 0), (4, 0), (5, 0), (6, 16)] [0] _)
            refine su_if_eq (tgt := 101) hC dX8_fits_75 rfl (?_ : SdS X 101 [(0, 18), (1, 0), (2, 0), (3, 0), (4, 0), (5, 0), (6, 16)] [] _) (?_ : SdS X 78 [(0, 18), (1, 0), (2, 0), (3, 0), (4, 0), (5, 0), (6, 16)] [] _)
            · refine su_aload_n hC 18 dX8_fits_101 rfl (by decide) (by decide) (?_ : SdS X 102 [(0, 18), (1, 0), (2, 0), (3, 0), (4, 0), (5, 0), (6, 16)] [18] _)
              refine su_getR hC (ci := 8) (j := 2) (C := RX8) (T := TX8) (N := 18) rfl rfl (by decide) in_X8 wl_2_110 rfl dX8_fits_102 (?_ : SdS X 105 [(0, 18), (1, 0), (2, 0), (3, 0), (4, 0), (5, 0), (6, 16)] [11] _)
              refine su_aload hC 16 dX8_fits_105 (by decide) (by decide) (?_ : SdS X 107 [(0, 18), (1, 0), (2, 0), (3, 0), (4, 0), (5, 0), (6, 16)] [16, 11] _)
              refine su_iload hC dX8_fits_107 (by decide) (?_ : SdS X 109 [(0, 18), (1, 0), (2, 0), (3, 0), (4, 0), (5, 0), (6, 16)] [0, 16, 11] _)
              refine su_iload_n hC dX8_fits_109 rfl (by decide) (?_ : SdS X 110 [(0, 18), (1, 0), (2, 0), (3, 0), (4, 0), (5, 0), (6, 16)] [0, 0, 16, 11] _)
              refine su_inv0 (τ := []) (τr := [16, 0, 0]) (ci := 1) (q := (RX1, TX1, 12)) hC WG (M_X1_ringTakes _) rfl rfl rfl rfl  rfl rfl wl_4_23 wl_4_24 wl_4_25 wl_1_2 wl_4_26 hd_X1_ringTakes (by rw [e3]; decide) (by decide) dX8_fits_110 (?_ : SdS X 113 [(0, 18), (1, 0), (2, 0), (3, 0), (4, 0), (5, 0), (6, 16)] [0] _)
              exact SdS.weak (by decide) (S_113)
            · refine su_aload_n hC 18 dX8_fits_78 rfl (by decide) (by decide) (?_ : SdS X 79 [(0, 18), (1, 0), (2, 0), (3, 0), (4, 0), (5, 0), (6, 16)] [18] _)
              refine su_getR hC (ci := 8) (j := 2) (C := RX8) (T := TX8) (N := 18) rfl rfl (by decide) in_X8 wl_2_110 rfl dX8_fits_79 (?_ : SdS X 82 [(0, 18), (1, 0), (2, 0), (3, 0), (4, 0), (5, 0), (6, 16)] [11] _)
              refine su_aload hC 16 dX8_fits_82 (by decide) (by decide) (?_ : SdS X 84 [(0, 18), (1, 0), (2, 0), (3, 0), (4, 0), (5, 0), (6, 16)] [16, 11] _)
              refine su_iload hC dX8_fits_84 (by decide) (?_ : SdS X 86 [(0, 18), (1, 0), (2, 0), (3, 0), (4, 0), (5, 0), (6, 16)] [0, 16, 11] _)
              refine su_iload_n hC dX8_fits_86 rfl (by decide) (?_ : SdS X 87 [(0, 18), (1, 0), (2, 0), (3, 0), (4, 0), (5, 0), (6, 16)] [0, 0, 16, 11] _)
              refine su_inv0 (τ := []) (τr := [16, 0, 0]) (ci := 1) (q := (RX1, TX1, 12)) hC WG (M_X1_meets _) rfl rfl rfl rfl  rfl rfl wl_4_22 wl_3_170 wl_3_171 wl_1_2 wl_3_172 hd_X1_meets (by rw [e3]; decide) (by decide) dX8_fits_87 (?_ : SdS X 90 [(0, 18), (1, 0), (2, 0), (3, 0), (4, 0), (5, 0), (6, 16)] [0] _)
              refine su_if_ne (tgt := 97) hC dX8_fits_90 rfl (?_ : SdS X 97 [(0, 18), (1, 0), (2, 0), (3, 0), (4, 0), (5, 0), (6, 16)] [] _) (?_ : SdS X 93 [(0, 18), (1, 0), (2, 0), (3, 0), (4, 0), (5, 0), (6, 16)] [] _)
              · refine su_iconst hC dX8_fits_97 ⟨by decide, by decide⟩ (?_ : SdS X 98 [(0, 18), (1, 0), (2, 0), (3, 0), (4, 0), (5, 0), (6, 16)] [0] _)
                refine su_goto (tgt := 113) hC dX8_fits_98 rfl (?_ : SdS X 113 [(0, 18), (1, 0), (2, 0), (3, 0), (4, 0), (5, 0), (6, 16)] [0] _)
                exact SdS.weak (by decide) (S_113)
              · refine su_iconst hC dX8_fits_93 ⟨by decide, by decide⟩ (?_ : SdS X 94 [(0, 18), (1, 0), (2, 0), (3, 0), (4, 0), (5, 0), (6, 16)] [0] _)
                refine su_goto (tgt := 113) hC dX8_fits_94 rfl (?_ : SdS X 113 [(0, 18), (1, 0), (2, 0), (3, 0), (4, 0), (5, 0), (6, 16)] [0] _)
                exact SdS.weak (by decide) (S_113)
          · refine su_aload_n hC 18 dX8_fits_68 rfl (by decide) (by decide) (?_ : SdS X 69 [(0, 18), (1, 0), (2, 0), (3, 0), (4, 0), (5, 0), (6, 16)] [18] _)
            refine su_iconst hC dX8_fits_69 ⟨by decide, by decide⟩ (?_ : SdS X 70 [(0, 18), (1, 0), (2, 0), (3, 0), (4, 0), (5, 0), (6, 16)] [0, 18] _)
            refine su_inv0 (τ := []) (τr := [0]) (ci := 8) (q := (RX8, TX8, 18)) hC WG (M_X8_refuse _) rfl rfl rfl rfl  rfl rfl wl_2_175 wl_2_177 wp_1 wl_1_1 wl_2_178 hd_X8_refuse (by rw [e3]; decide) (by decide) dX8_fits_70 (?_ : SdS X 73 [(0, 18), (1, 0), (2, 0), (3, 0), (4, 0), (5, 0), (6, 16)] [0] _)
            exact su_ireturn hC hT dX8_fits_73
        · exact SdS.weak (by decide) (S_41)
  refine (?_ : SdS X 0 [(0, 18), (1, 0), (2, 0), (3, 0), (4, 0)] [] (E_X8_fits Q))
  unfold E_X8_fits
  refine su_iload_n hC dX8_fits_0 rfl (by decide) (?_ : SdS X 1 [(0, 18), (1, 0), (2, 0), (3, 0), (4, 0)] [0] _)
  refine su_if_eq (tgt := 12) hC dX8_fits_1 rfl (?_ : SdS X 12 [(0, 18), (1, 0), (2, 0), (3, 0), (4, 0)] [] _) (?_ : SdS X 4 [(0, 18), (1, 0), (2, 0), (3, 0), (4, 0)] [] _)
  · refine su_aload_n hC 18 dX8_fits_12 rfl (by decide) (by decide) (?_ : SdS X 13 [(0, 18), (1, 0), (2, 0), (3, 0), (4, 0)] [18] _)
    refine su_iload_n hC dX8_fits_13 rfl (by decide) (?_ : SdS X 14 [(0, 18), (1, 0), (2, 0), (3, 0), (4, 0)] [0, 18] _)
    refine su_inv0 (τ := []) (τr := [0]) (ci := 8) (q := (RX8, TX8, 18)) hC WG (M_X8_isRing _) rfl rfl rfl rfl  rfl rfl wl_4_13 wl_4_15 wp_36 wl_1_1 wl_4_16 hd_X8_isRing (by rw [e3]; decide) (by decide) dX8_fits_14 (?_ : SdS X 17 [(0, 18), (1, 0), (2, 0), (3, 0), (4, 0)] [0] _)
    exact SdS.weak (by decide) (S_17)
  · refine su_aload_n hC 18 dX8_fits_4 rfl (by decide) (by decide) (?_ : SdS X 5 [(0, 18), (1, 0), (2, 0), (3, 0), (4, 0)] [18] _)
    refine su_iload_n hC dX8_fits_5 rfl (by decide) (?_ : SdS X 6 [(0, 18), (1, 0), (2, 0), (3, 0), (4, 0)] [0, 18] _)
    refine su_inv0 (τ := []) (τr := [0]) (ci := 8) (q := (RX8, TX8, 18)) hC WG (M_X8_isGate _) rfl rfl rfl rfl  rfl rfl wl_4_2 wl_4_4 wp_35 wl_1_1 wl_4_5 hd_X8_isGate (by rw [e3]; decide) (by decide) dX8_fits_6 (?_ : SdS X 9 [(0, 18), (1, 0), (2, 0), (3, 0), (4, 0)] [0] _)
    refine su_goto (tgt := 17) hC dX8_fits_9 rfl (?_ : SdS X 17 [(0, 18), (1, 0), (2, 0), (3, 0), (4, 0)] [0] _)
    exact SdS.weak (by decide) (S_17)
theorem hd_X8_gate : yX8_gate.cls ≠ "java/lang/invoke/MethodHandle" ∧ yX8_gate.cls ≠ "java/lang/invoke/VarHandle" ∧ (parseMethodDescriptor yX8_gate.desc).map (fun d => d.parameters.length) = some 2 := by decide +kernel
set_option maxRecDepth 100000 in
set_option maxHeartbeats 4000000 in
theorem M_X8_gate (l : Launch) : MtS l yX8_gate (Cond.code yX8_gate cX8_gate 3 (some .int) :: WALL) { frames := 2, cells := 0, slots := 0, locals := 42 } [18, 0, 0] (some 0) T_X8_gate := by
  refine MtS.mk (B := E_X8_gate) (by decide +kernel) (by decide) (fun _ _ _ hh => hh) ?_
  intro X Q e1 e2 e3 hC hN hT
  subst e1
  have hC : CF X cX8_gate RX8 WALL := hC
  have S_17 : SdS X 17 [(0, 18), (1, 0), (2, 0)] [] (B_X8_gate_17 Q) := by
    unfold B_X8_gate_17
    refine su_aload_n hC 18 dX8_gate_17 rfl (by decide) (by decide) (?_ : SdS X 18 [(0, 18), (1, 0), (2, 0)] [18] _)
    refine su_iconst hC dX8_gate_18 ⟨by decide, by decide⟩ (?_ : SdS X 19 [(0, 18), (1, 0), (2, 0)] [0, 18] _)
    refine su_inv0 (τ := []) (τr := [0]) (ci := 8) (q := (RX8, TX8, 18)) hC WG (M_X8_refuse _) rfl rfl rfl rfl  rfl rfl wl_2_175 wl_2_177 wp_1 wl_1_1 wl_2_178 hd_X8_refuse (by rw [e3]; decide) (by decide) dX8_gate_19 (?_ : SdS X 22 [(0, 18), (1, 0), (2, 0)] [0] _)
    exact su_ireturn hC hT dX8_gate_22
  refine (?_ : SdS X 0 [(0, 18), (1, 0), (2, 0)] [] (E_X8_gate Q))
  unfold E_X8_gate
  refine su_aload_n hC 18 dX8_gate_0 rfl (by decide) (by decide) (?_ : SdS X 1 [(0, 18), (1, 0), (2, 0)] [18] _)
  refine su_iload_n hC dX8_gate_1 rfl (by decide) (?_ : SdS X 2 [(0, 18), (1, 0), (2, 0)] [0, 18] _)
  refine su_inv0 (τ := []) (τr := [0]) (ci := 8) (q := (RX8, TX8, 18)) hC WG (M_X8_isGate _) rfl rfl rfl rfl  rfl rfl wl_4_2 wl_4_4 wp_35 wl_1_1 wl_4_5 hd_X8_isGate (by rw [e3]; decide) (by decide) dX8_gate_2 (?_ : SdS X 5 [(0, 18), (1, 0), (2, 0)] [0] _)
  refine su_if_eq (tgt := 17) hC dX8_gate_5 rfl (?_ : SdS X 17 [(0, 18), (1, 0), (2, 0)] [] _) (?_ : SdS X 8 [(0, 18), (1, 0), (2, 0)] [] _)
  · exact SdS.weak (by decide) (S_17)
  · refine su_iload_n hC dX8_gate_8 rfl (by decide) (?_ : SdS X 9 [(0, 18), (1, 0), (2, 0)] [0] _)
    refine su_bipush hC dX8_gate_9 (by decide) (?_ : SdS X 11 [(0, 18), (1, 0), (2, 0)] [0, 0] _)
    refine su_invs (τ := []) (τs := [0, 0]) hC false "" WG (M_X8_within _) rfl rfl rfl rfl wl_4_6 wl_4_7 wl_1_1 wl_4_8 hd_X8_within (by rw [e3]; decide) (by decide) dX8_gate_11 (?_ : SdS X 14 [(0, 18), (1, 0), (2, 0)] [0] _)
    refine su_if_ne (tgt := 23) hC dX8_gate_14 rfl (?_ : SdS X 23 [(0, 18), (1, 0), (2, 0)] [] _) (?_ : SdS X 17 [(0, 18), (1, 0), (2, 0)] [] _)
    · refine su_aload_n hC 18 dX8_gate_23 rfl (by decide) (by decide) (?_ : SdS X 24 [(0, 18), (1, 0), (2, 0)] [18] _)
      refine su_aload_n hC 18 dX8_gate_24 rfl (by decide) (by decide) (?_ : SdS X 25 [(0, 18), (1, 0), (2, 0)] [18, 18] _)
      refine su_getR hC (ci := 8) (j := 2) (C := RX8) (T := TX8) (N := 18) rfl rfl (by decide) in_X8 wl_2_110 rfl dX8_gate_25 (?_ : SdS X 28 [(0, 18), (1, 0), (2, 0)] [11, 18] _)
      refine su_getR hC (ci := 1) (j := 6) (C := RX1) (T := TX1) (N := 12) rfl rfl (by decide) in_X1 wl_1_104 rfl dX8_gate_28 (?_ : SdS X 31 [(0, 18), (1, 0), (2, 0)] [200, 18] _)
      refine su_iload_n hC dX8_gate_31 rfl (by decide) (?_ : SdS X 32 [(0, 18), (1, 0), (2, 0)] [0, 200, 18] _)
      refine su_aaload (e := 100) hC (List.mem_of_getElem? (i := 7) rfl) rfl rfl rfl dX8_gate_32 (?_ : SdS X 33 [(0, 18), (1, 0), (2, 0)] [100, 18] _)
      refine su_iload_n hC dX8_gate_33 rfl (by decide) (?_ : SdS X 34 [(0, 18), (1, 0), (2, 0)] [0, 100, 18] _)
      refine su_iaload hC dX8_gate_34 (?_ : SdS X 35 [(0, 18), (1, 0), (2, 0)] [0, 18] _)
      refine su_inv0 (τ := []) (τr := [0]) (ci := 8) (q := (RX8, TX8, 18)) hC WG (M_X8_grant _) rfl rfl rfl rfl  rfl rfl wl_3_225 wl_3_227 wp_34 wl_1_1 wl_3_228 hd_X8_grant (by rw [e3]; decide) (by decide) dX8_gate_35 (?_ : SdS X 38 [(0, 18), (1, 0), (2, 0)] [0] _)
      exact su_ireturn hC hT dX8_gate_38
    · exact SdS.weak (by decide) (S_17)
theorem hd_X8_isOrder : yX8_isOrder.cls ≠ "java/lang/invoke/MethodHandle" ∧ yX8_isOrder.cls ≠ "java/lang/invoke/VarHandle" ∧ (parseMethodDescriptor yX8_isOrder.desc).map (fun d => d.parameters.length) = some 1 := by decide +kernel
set_option maxRecDepth 100000 in
set_option maxHeartbeats 4000000 in
theorem M_X8_isOrder (l : Launch) : MtS l yX8_isOrder (Cond.code yX8_isOrder cX8_isOrder 2 (some .boolean) :: WALL) { frames := 1, cells := 0, slots := 0, locals := 21 } [18, 0] (some 0) T_X8_isOrder := by
  refine MtS.mk (B := E_X8_isOrder) (by decide +kernel) (by decide) (fun _ _ _ hh => hh) ?_
  intro X Q e1 e2 e3 hC hN hT
  subst e1
  have hC : CF X cX8_isOrder RX8 WALL := hC
  refine (?_ : SdS X 0 [(0, 18), (1, 0)] [] (E_X8_isOrder Q))
  unfold E_X8_isOrder
  refine su_iload_n hC dX8_isOrder_0 rfl (by decide) (?_ : SdS X 1 [(0, 18), (1, 0)] [0] _)
  refine su_aload_n hC 18 dX8_isOrder_1 rfl (by decide) (by decide) (?_ : SdS X 2 [(0, 18), (1, 0)] [18, 0] _)
  refine su_getR hC (ci := 8) (j := 2) (C := RX8) (T := TX8) (N := 18) rfl rfl (by decide) in_X8 wl_2_110 rfl dX8_isOrder_2 (?_ : SdS X 5 [(0, 18), (1, 0)] [11, 0] _)
  refine su_getF hC (ci := 1) (j := 4) (C := RX1) (T := TX1) (N := 12) rfl rfl (by decide) in_X1 wl_1_98 rfl dX8_isOrder_5 (?_ : SdS X 8 [(0, 18), (1, 0)] [0, 0] _)
  refine su_invs (τ := []) (τs := [0, 0]) hC false "" WG (M_X8_within _) rfl rfl rfl rfl wl_4_6 wl_4_7 wl_1_1 wl_4_8 hd_X8_within (by rw [e3]; decide) (by decide) dX8_isOrder_8 (?_ : SdS X 11 [(0, 18), (1, 0)] [0] _)
  exact su_zreturn hC hT dX8_isOrder_11
theorem wl_4_79 : Cond.methodLink RX8 191 yX8_isOrder ∈ WALL := tb4 (List.mem_of_getElem? (i := 79) rfl) rfl
theorem wl_4_81 : Cond.instanceMethod yX8_isOrder ∈ WALL := tb4 (List.mem_of_getElem? (i := 81) rfl) rfl
theorem wp_42 : Cond.selects RX8 yX8_isOrder yX8_isOrder ∈ WALL := tbS (List.mem_of_getElem? (i := 42) rfl)
theorem wl_4_82 : Cond.code yX8_isOrder cX8_isOrder 2 (some .boolean) ∈ WALL := tb4 (List.mem_of_getElem? (i := 82) rfl) rfl
theorem wl_2_9 : Cond.fieldLink RX8 197 "NarrowRings$Way" "gates" "I" ∈ WALL := tb2 (List.mem_of_getElem? (i := 9) rfl) rfl
theorem wl_2_13 : Cond.fieldLink RX8 200 "NarrowRings$Way" "gate" "[I" ∈ WALL := tb2 (List.mem_of_getElem? (i := 13) rfl) rfl
theorem hd_X8_gateOf : yX8_gateOf.cls ≠ "java/lang/invoke/MethodHandle" ∧ yX8_gateOf.cls ≠ "java/lang/invoke/VarHandle" ∧ (parseMethodDescriptor yX8_gateOf.desc).map (fun d => d.parameters.length) = some 2 := by decide +kernel
set_option maxRecDepth 100000 in
set_option maxHeartbeats 4000000 in
theorem M_X8_gateOf (l : Launch) : MtS l yX8_gateOf (Cond.code yX8_gateOf cX8_gateOf 4 (some .int) :: WALL) { frames := 2, cells := 0, slots := 0, locals := 42 } [18, 0, 0] (some 0) T_X8_gateOf := by
  refine MtS.mk (B := E_X8_gateOf) (by decide +kernel) (by decide) (fun _ _ _ hh => hh) ?_
  intro X Q e1 e2 e3 hC hN hT
  subst e1
  have hC : CF X cX8_gateOf RX8 WALL := hC
  have S_12 : SdS X 12 [(0, 18), (1, 0), (2, 0)] [] (B_X8_gateOf_12 Q) := by
    unfold B_X8_gateOf_12
    refine su_aload_n hC 18 dX8_gateOf_12 rfl (by decide) (by decide) (?_ : SdS X 13 [(0, 18), (1, 0), (2, 0)] [18] _)
    refine su_iconst hC dX8_gateOf_13 ⟨by decide, by decide⟩ (?_ : SdS X 14 [(0, 18), (1, 0), (2, 0)] [0, 18] _)
    refine su_inv0 (τ := []) (τr := [0]) (ci := 8) (q := (RX8, TX8, 18)) hC WG (M_X8_refuse _) rfl rfl rfl rfl  rfl rfl wl_2_175 wl_2_177 wp_1 wl_1_1 wl_2_178 hd_X8_refuse (by rw [e3]; decide) (by decide) dX8_gateOf_14 (?_ : SdS X 17 [(0, 18), (1, 0), (2, 0)] [0] _)
    exact su_ireturn hC hT dX8_gateOf_17
  refine (?_ : SdS X 0 [(0, 18), (1, 0), (2, 0)] [] (E_X8_gateOf Q))
  unfold E_X8_gateOf
  refine su_aload_n hC 18 dX8_gateOf_0 rfl (by decide) (by decide) (?_ : SdS X 1 [(0, 18), (1, 0), (2, 0)] [18] _)
  refine su_iload_n hC dX8_gateOf_1 rfl (by decide) (?_ : SdS X 2 [(0, 18), (1, 0), (2, 0)] [0, 18] _)
  refine su_inv0 (τ := []) (τr := [0]) (ci := 8) (q := (RX8, TX8, 18)) hC WG (M_X8_isOrder _) rfl rfl rfl rfl  rfl rfl wl_4_79 wl_4_81 wp_42 wl_1_1 wl_4_82 hd_X8_isOrder (by rw [e3]; decide) (by decide) dX8_gateOf_2 (?_ : SdS X 5 [(0, 18), (1, 0), (2, 0)] [0] _)
  refine su_if_eq (tgt := 12) hC dX8_gateOf_5 rfl (?_ : SdS X 12 [(0, 18), (1, 0), (2, 0)] [] _) (?_ : SdS X 8 [(0, 18), (1, 0), (2, 0)] [] _)
  · exact SdS.weak (by decide) (S_12)
  · refine su_iload_n hC dX8_gateOf_8 rfl (by decide) (?_ : SdS X 9 [(0, 18), (1, 0), (2, 0)] [0] _)
    refine su_if_ge (tgt := 18) hC dX8_gateOf_9 rfl (?_ : SdS X 18 [(0, 18), (1, 0), (2, 0)] [] _) (?_ : SdS X 12 [(0, 18), (1, 0), (2, 0)] [] _)
    · refine su_aload_n hC 18 dX8_gateOf_18 rfl (by decide) (by decide) (?_ : SdS X 19 [(0, 18), (1, 0), (2, 0)] [18] _)
      refine su_getR hC (ci := 8) (j := 6) (C := RX8) (T := TX8) (N := 18) rfl rfl (by decide) in_X8 wl_2_114 rfl dX8_gateOf_19 (?_ : SdS X 22 [(0, 18), (1, 0), (2, 0)] [117] _)
      refine su_iload_n hC dX8_gateOf_22 rfl (by decide) (?_ : SdS X 23 [(0, 18), (1, 0), (2, 0)] [0, 117] _)
      refine su_aaload (e := 17) hC (List.mem_of_getElem? (i := 6) rfl) rfl rfl rfl dX8_gateOf_23 (?_ : SdS X 24 [(0, 18), (1, 0), (2, 0)] [17] _)
      refine su_astore_n (Γ' := [(0, 18), (1, 0), (2, 0), (3, 17)]) hC dX8_gateOf_24 rfl (by decide) (by rw [e2]; decide) (by decide) (?_ : SdS X 25 [(0, 18), (1, 0), (2, 0), (3, 17)] [] _)
      refine su_aload_n hC 17 dX8_gateOf_25 rfl (by decide) (by decide) (?_ : SdS X 26 [(0, 18), (1, 0), (2, 0), (3, 17)] [17] _)
      refine su_getF hC (ci := 7) (j := 0) (C := RX7) (T := TX7) (N := 7) rfl rfl (by decide) in_X7 wl_1_235 rfl dX8_gateOf_26 (?_ : SdS X 29 [(0, 18), (1, 0), (2, 0), (3, 17)] [0] _)
      refine su_if_ne (tgt := 39) hC dX8_gateOf_29 rfl (?_ : SdS X 39 [(0, 18), (1, 0), (2, 0), (3, 17)] [] _) (?_ : SdS X 32 [(0, 18), (1, 0), (2, 0), (3, 17)] [] _)
      · refine su_iload_n hC dX8_gateOf_39 rfl (by decide) (?_ : SdS X 40 [(0, 18), (1, 0), (2, 0), (3, 17)] [0] _)
        refine su_aload_n hC 17 dX8_gateOf_40 rfl (by decide) (by decide) (?_ : SdS X 41 [(0, 18), (1, 0), (2, 0), (3, 17)] [17, 0] _)
        refine su_getF hC (ci := 7) (j := 5) (C := RX7) (T := TX7) (N := 7) rfl rfl (by decide) in_X7 wl_2_9 rfl dX8_gateOf_41 (?_ : SdS X 44 [(0, 18), (1, 0), (2, 0), (3, 17)] [0, 0] _)
        refine su_invs (τ := []) (τs := [0, 0]) hC false "" WG (M_X8_within _) rfl rfl rfl rfl wl_4_6 wl_4_7 wl_1_1 wl_4_8 hd_X8_within (by rw [e3]; decide) (by decide) dX8_gateOf_44 (?_ : SdS X 47 [(0, 18), (1, 0), (2, 0), (3, 17)] [0] _)
        refine su_if_ne (tgt := 56) hC dX8_gateOf_47 rfl (?_ : SdS X 56 [(0, 18), (1, 0), (2, 0), (3, 17)] [] _) (?_ : SdS X 50 [(0, 18), (1, 0), (2, 0), (3, 17)] [] _)
        · refine su_aload_n hC 18 dX8_gateOf_56 rfl (by decide) (by decide) (?_ : SdS X 57 [(0, 18), (1, 0), (2, 0), (3, 17)] [18] _)
          refine su_aload_n hC 17 dX8_gateOf_57 rfl (by decide) (by decide) (?_ : SdS X 58 [(0, 18), (1, 0), (2, 0), (3, 17)] [17, 18] _)
          refine su_getR hC (ci := 7) (j := 6) (C := RX7) (T := TX7) (N := 7) rfl rfl (by decide) in_X7 wl_2_13 rfl dX8_gateOf_58 (?_ : SdS X 61 [(0, 18), (1, 0), (2, 0), (3, 17)] [100, 18] _)
          refine su_iload_n hC dX8_gateOf_61 rfl (by decide) (?_ : SdS X 62 [(0, 18), (1, 0), (2, 0), (3, 17)] [0, 100, 18] _)
          refine su_iaload hC dX8_gateOf_62 (?_ : SdS X 63 [(0, 18), (1, 0), (2, 0), (3, 17)] [0, 18] _)
          refine su_inv0 (τ := []) (τr := [0]) (ci := 8) (q := (RX8, TX8, 18)) hC WG (M_X8_grant _) rfl rfl rfl rfl  rfl rfl wl_3_225 wl_3_227 wp_34 wl_1_1 wl_3_228 hd_X8_grant (by rw [e3]; decide) (by decide) dX8_gateOf_63 (?_ : SdS X 66 [(0, 18), (1, 0), (2, 0), (3, 17)] [0] _)
          exact su_ireturn hC hT dX8_gateOf_66
        · refine su_aload_n hC 18 dX8_gateOf_50 rfl (by decide) (by decide) (?_ : SdS X 51 [(0, 18), (1, 0), (2, 0), (3, 17)] [18] _)
          refine su_iconst hC dX8_gateOf_51 ⟨by decide, by decide⟩ (?_ : SdS X 52 [(0, 18), (1, 0), (2, 0), (3, 17)] [0, 18] _)
          refine su_inv0 (τ := []) (τr := [0]) (ci := 8) (q := (RX8, TX8, 18)) hC WG (M_X8_refuse _) rfl rfl rfl rfl  rfl rfl wl_2_175 wl_2_177 wp_1 wl_1_1 wl_2_178 hd_X8_refuse (by rw [e3]; decide) (by decide) dX8_gateOf_52 (?_ : SdS X 55 [(0, 18), (1, 0), (2, 0), (3, 17)] [0] _)
          exact su_ireturn hC hT dX8_gateOf_55
      · refine su_aload_n hC 18 dX8_gateOf_32 rfl (by decide) (by decide) (?_ : SdS X 33 [(0, 18), (1, 0), (2, 0), (3, 17)] [18] _)
        refine su_bipush hC dX8_gateOf_33 (by decide) (?_ : SdS X 35 [(0, 18), (1, 0), (2, 0), (3, 17)] [0, 18] _)
        refine su_inv0 (τ := []) (τr := [0]) (ci := 8) (q := (RX8, TX8, 18)) hC WG (M_X8_refuse _) rfl rfl rfl rfl  rfl rfl wl_2_175 wl_2_177 wp_1 wl_1_1 wl_2_178 hd_X8_refuse (by rw [e3]; decide) (by decide) dX8_gateOf_35 (?_ : SdS X 38 [(0, 18), (1, 0), (2, 0), (3, 17)] [0] _)
        exact su_ireturn hC hT dX8_gateOf_38
    · exact SdS.weak (by decide) (S_12)
theorem wl_5_14 : Cond.methodLink RX8 272 yX1_daysOf ∈ WALL := tb5 (List.mem_of_getElem? (i := 14) rfl) rfl
theorem wl_5_15 : Cond.instanceMethod yX1_daysOf ∈ WALL := tb5 (List.mem_of_getElem? (i := 15) rfl) rfl
theorem wl_5_16 : Cond.selects RX1 yX1_daysOf yX1_daysOf ∈ WALL := tb5 (List.mem_of_getElem? (i := 16) rfl) rfl
theorem wl_5_17 : Cond.code yX1_daysOf cX1_daysOf 5 (some .int) ∈ WALL := tb5 (List.mem_of_getElem? (i := 17) rfl) rfl
theorem hd_X8_hold : yX8_hold.cls ≠ "java/lang/invoke/MethodHandle" ∧ yX8_hold.cls ≠ "java/lang/invoke/VarHandle" ∧ (parseMethodDescriptor yX8_hold.desc).map (fun d => d.parameters.length) = some 1 := by decide +kernel
set_option maxRecDepth 100000 in
set_option maxHeartbeats 4000000 in
theorem M_X8_hold (l : Launch) : MtS l yX8_hold (Cond.code yX8_hold cX8_hold 2 (some .int) :: WALL) { frames := 2, cells := 0, slots := 0, locals := 42 } [18, 0] (some 0) T_X8_hold := by
  refine MtS.mk (B := E_X8_hold) (by decide +kernel) (by decide) (fun _ _ _ hh => hh) ?_
  intro X Q e1 e2 e3 hC hN hT
  subst e1
  have hC : CF X cX8_hold RX8 WALL := hC
  refine (?_ : SdS X 0 [(0, 18), (1, 0)] [] (E_X8_hold Q))
  unfold E_X8_hold
  refine su_aload_n hC 18 dX8_hold_0 rfl (by decide) (by decide) (?_ : SdS X 1 [(0, 18), (1, 0)] [18] _)
  refine su_iload_n hC dX8_hold_1 rfl (by decide) (?_ : SdS X 2 [(0, 18), (1, 0)] [0, 18] _)
  refine su_inv0 (τ := []) (τr := [0]) (ci := 8) (q := (RX8, TX8, 18)) hC WG (M_X8_isRing _) rfl rfl rfl rfl  rfl rfl wl_4_13 wl_4_15 wp_36 wl_1_1 wl_4_16 hd_X8_isRing (by rw [e3]; decide) (by decide) dX8_hold_2 (?_ : SdS X 5 [(0, 18), (1, 0)] [0] _)
  refine su_if_ne (tgt := 14) hC dX8_hold_5 rfl (?_ : SdS X 14 [(0, 18), (1, 0)] [] _) (?_ : SdS X 8 [(0, 18), (1, 0)] [] _)
  · refine su_aload_n hC 18 dX8_hold_14 rfl (by decide) (by decide) (?_ : SdS X 15 [(0, 18), (1, 0)] [18] _)
    refine su_aload_n hC 18 dX8_hold_15 rfl (by decide) (by decide) (?_ : SdS X 16 [(0, 18), (1, 0)] [18, 18] _)
    refine su_getR hC (ci := 8) (j := 2) (C := RX8) (T := TX8) (N := 18) rfl rfl (by decide) in_X8 wl_2_110 rfl dX8_hold_16 (?_ : SdS X 19 [(0, 18), (1, 0)] [11, 18] _)
    refine su_iload_n hC dX8_hold_19 rfl (by decide) (?_ : SdS X 20 [(0, 18), (1, 0)] [0, 11, 18] _)
    refine su_inv0 (τ := [18]) (τr := [0]) (ci := 1) (q := (RX1, TX1, 12)) hC WG (M_X1_daysOf _) rfl rfl rfl rfl  rfl rfl wl_5_14 wl_5_15 wl_5_16 wl_1_2 wl_5_17 hd_X1_daysOf (by rw [e3]; decide) (by decide) dX8_hold_20 (?_ : SdS X 23 [(0, 18), (1, 0)] [0, 18] _)
    refine su_inv0 (τ := []) (τr := [0]) (ci := 8) (q := (RX8, TX8, 18)) hC WG (M_X8_grant _) rfl rfl rfl rfl  rfl rfl wl_3_225 wl_3_227 wp_34 wl_1_1 wl_3_228 hd_X8_grant (by rw [e3]; decide) (by decide) dX8_hold_23 (?_ : SdS X 26 [(0, 18), (1, 0)] [0] _)
    exact su_ireturn hC hT dX8_hold_26
  · refine su_aload_n hC 18 dX8_hold_8 rfl (by decide) (by decide) (?_ : SdS X 9 [(0, 18), (1, 0)] [18] _)
    refine su_iconst hC dX8_hold_9 ⟨by decide, by decide⟩ (?_ : SdS X 10 [(0, 18), (1, 0)] [0, 18] _)
    refine su_inv0 (τ := []) (τr := [0]) (ci := 8) (q := (RX8, TX8, 18)) hC WG (M_X8_refuse _) rfl rfl rfl rfl  rfl rfl wl_2_175 wl_2_177 wp_1 wl_1_1 wl_2_178 hd_X8_refuse (by rw [e3]; decide) (by decide) dX8_hold_10 (?_ : SdS X 13 [(0, 18), (1, 0)] [0] _)
    exact su_ireturn hC hT dX8_hold_13
theorem wl_4_63 : Cond.methodLink RX8 177 yX8_ask ∈ WALL := tb4 (List.mem_of_getElem? (i := 63) rfl) rfl
theorem wl_4_65 : Cond.instanceMethod yX8_ask ∈ WALL := tb4 (List.mem_of_getElem? (i := 65) rfl) rfl
theorem wp_40 : Cond.selects RX8 yX8_ask yX8_ask ∈ WALL := tbS (List.mem_of_getElem? (i := 40) rfl)
theorem wl_4_66 : Cond.code yX8_ask cX8_ask 6 (some .boolean) ∈ WALL := tb4 (List.mem_of_getElem? (i := 66) rfl) rfl
theorem wl_2_3 : Cond.fieldLink RX8 188 "NarrowRings$Way" "hours" "I" ∈ WALL := tb2 (List.mem_of_getElem? (i := 3) rfl) rfl
theorem hd_X8_hours : yX8_hours.cls ≠ "java/lang/invoke/MethodHandle" ∧ yX8_hours.cls ≠ "java/lang/invoke/VarHandle" ∧ (parseMethodDescriptor yX8_hours.desc).map (fun d => d.parameters.length) = some 5 := by decide +kernel
set_option maxRecDepth 100000 in
set_option maxHeartbeats 4000000 in
theorem M_X8_hours (l : Launch) : MtS l yX8_hours (Cond.code yX8_hours cX8_hours 6 (some .int) :: WALL) { frames := 6, cells := 0, slots := 0, locals := 149 } [18, 0, 0, 0, 0, 0] (some 0) T_X8_hours := by
  refine MtS.mk (B := E_X8_hours) (by decide +kernel) (by decide) (fun _ _ _ hh => hh) ?_
  intro X Q e1 e2 e3 hC hN hT
  subst e1
  have hC : CF X cX8_hours RX8 WALL := hC
  have S_43 : SdS X 43 [(0, 18), (1, 0), (2, 0), (3, 0), (4, 0), (5, 0)] [0, 18] (B_X8_hours_43 Q) := by
    unfold B_X8_hours_43
    refine su_inv0 (τ := []) (τr := [0]) (ci := 8) (q := (RX8, TX8, 18)) hC WG (M_X8_grant _) rfl rfl rfl rfl  rfl rfl wl_3_225 wl_3_227 wp_34 wl_1_1 wl_3_228 hd_X8_grant (by rw [e3]; decide) (by decide) dX8_hours_43 (?_ : SdS X 46 [(0, 18), (1, 0), (2, 0), (3, 0), (4, 0), (5, 0)] [0] _)
    exact su_ireturn hC hT dX8_hours_46
  refine (?_ : SdS X 0 [(0, 18), (1, 0), (2, 0), (3, 0), (4, 0), (5, 0)] [] (E_X8_hours Q))
  unfold E_X8_hours
  refine su_aload_n hC 18 dX8_hours_0 rfl (by decide) (by decide) (?_ : SdS X 1 [(0, 18), (1, 0), (2, 0), (3, 0), (4, 0), (5, 0)] [18] _)
  refine su_iload_n hC dX8_hours_1 rfl (by decide) (?_ : SdS X 2 [(0, 18), (1, 0), (2, 0), (3, 0), (4, 0), (5, 0)] [0, 18] _)
  refine su_iload_n hC dX8_hours_2 rfl (by decide) (?_ : SdS X 3 [(0, 18), (1, 0), (2, 0), (3, 0), (4, 0), (5, 0)] [0, 0, 18] _)
  refine su_iload_n hC dX8_hours_3 rfl (by decide) (?_ : SdS X 4 [(0, 18), (1, 0), (2, 0), (3, 0), (4, 0), (5, 0)] [0, 0, 0, 18] _)
  refine su_iload hC dX8_hours_4 (by decide) (?_ : SdS X 6 [(0, 18), (1, 0), (2, 0), (3, 0), (4, 0), (5, 0)] [0, 0, 0, 0, 18] _)
  refine su_iload hC dX8_hours_6 (by decide) (?_ : SdS X 8 [(0, 18), (1, 0), (2, 0), (3, 0), (4, 0), (5, 0)] [0, 0, 0, 0, 0, 18] _)
  refine su_inv0 (τ := []) (τr := [0, 0, 0, 0, 0]) (ci := 8) (q := (RX8, TX8, 18)) hC WG (M_X8_ask _) rfl rfl rfl rfl  rfl rfl wl_4_63 wl_4_65 wp_40 wl_1_1 wl_4_66 hd_X8_ask (by rw [e3]; decide) (by decide) dX8_hours_8 (?_ : SdS X 11 [(0, 18), (1, 0), (2, 0), (3, 0), (4, 0), (5, 0)] [0] _)
  refine su_if_ne (tgt := 20) hC dX8_hours_11 rfl (?_ : SdS X 20 [(0, 18), (1, 0), (2, 0), (3, 0), (4, 0), (5, 0)] [] _) (?_ : SdS X 14 [(0, 18), (1, 0), (2, 0), (3, 0), (4, 0), (5, 0)] [] _)
  · refine su_aload_n hC 18 dX8_hours_20 rfl (by decide) (by decide) (?_ : SdS X 21 [(0, 18), (1, 0), (2, 0), (3, 0), (4, 0), (5, 0)] [18] _)
    refine su_aload_n hC 18 dX8_hours_21 rfl (by decide) (by decide) (?_ : SdS X 22 [(0, 18), (1, 0), (2, 0), (3, 0), (4, 0), (5, 0)] [18, 18] _)
    refine su_getR hC (ci := 8) (j := 7) (C := RX8) (T := TX8) (N := 18) rfl rfl (by decide) in_X8 wl_2_115 rfl dX8_hours_22 (?_ : SdS X 25 [(0, 18), (1, 0), (2, 0), (3, 0), (4, 0), (5, 0)] [17, 18] _)
    refine su_getF hC (ci := 7) (j := 0) (C := RX7) (T := TX7) (N := 7) rfl rfl (by decide) in_X7 wl_1_235 rfl dX8_hours_25 (?_ : SdS X 28 [(0, 18), (1, 0), (2, 0), (3, 0), (4, 0), (5, 0)] [0, 18] _)
    refine su_if_eq (tgt := 41) hC dX8_hours_28 rfl (?_ : SdS X 41 [(0, 18), (1, 0), (2, 0), (3, 0), (4, 0), (5, 0)] [18] _) (?_ : SdS X 31 [(0, 18), (1, 0), (2, 0), (3, 0), (4, 0), (5, 0)] [18] _)
    · refine su_bipush hC dX8_hours_41 (by decide) (?_ : SdS X 43 [(0, 18), (1, 0), (2, 0), (3, 0), (4, 0), (5, 0)] [0, 18] _)
      exact SdS.weak (by decide) (S_43)
    · refine su_aload_n hC 18 dX8_hours_31 rfl (by decide) (by decide) (?_ : SdS X 32 [(0, 18), (1, 0), (2, 0), (3, 0), (4, 0), (5, 0)] [18, 18] _)
      refine su_getR hC (ci := 8) (j := 7) (C := RX8) (T := TX8) (N := 18) rfl rfl (by decide) in_X8 wl_2_115 rfl dX8_hours_32 (?_ : SdS X 35 [(0, 18), (1, 0), (2, 0), (3, 0), (4, 0), (5, 0)] [17, 18] _)
      refine su_getF hC (ci := 7) (j := 3) (C := RX7) (T := TX7) (N := 7) rfl rfl (by decide) in_X7 wl_2_3 rfl dX8_hours_35 (?_ : SdS X 38 [(0, 18), (1, 0), (2, 0), (3, 0), (4, 0), (5, 0)] [0, 18] _)
      refine su_goto (tgt := 43) hC dX8_hours_38 rfl (?_ : SdS X 43 [(0, 18), (1, 0), (2, 0), (3, 0), (4, 0), (5, 0)] [0, 18] _)
      exact SdS.weak (by decide) (S_43)
  · refine su_aload_n hC 18 dX8_hours_14 rfl (by decide) (by decide) (?_ : SdS X 15 [(0, 18), (1, 0), (2, 0), (3, 0), (4, 0), (5, 0)] [18] _)
    refine su_iconst hC dX8_hours_15 ⟨by decide, by decide⟩ (?_ : SdS X 16 [(0, 18), (1, 0), (2, 0), (3, 0), (4, 0), (5, 0)] [0, 18] _)
    refine su_inv0 (τ := []) (τr := [0]) (ci := 8) (q := (RX8, TX8, 18)) hC WG (M_X8_refuse _) rfl rfl rfl rfl  rfl rfl wl_2_175 wl_2_177 wp_1 wl_1_1 wl_2_178 hd_X8_refuse (by rw [e3]; decide) (by decide) dX8_hours_16 (?_ : SdS X 19 [(0, 18), (1, 0), (2, 0), (3, 0), (4, 0), (5, 0)] [0] _)
    exact su_ireturn hC hT dX8_hours_19
theorem hd_X8_hoursOf : yX8_hoursOf.cls ≠ "java/lang/invoke/MethodHandle" ∧ yX8_hoursOf.cls ≠ "java/lang/invoke/VarHandle" ∧ (parseMethodDescriptor yX8_hoursOf.desc).map (fun d => d.parameters.length) = some 1 := by decide +kernel
set_option maxRecDepth 100000 in
set_option maxHeartbeats 4000000 in
theorem M_X8_hoursOf (l : Launch) : MtS l yX8_hoursOf (Cond.code yX8_hoursOf cX8_hoursOf 2 (some .int) :: WALL) { frames := 2, cells := 0, slots := 0, locals := 42 } [18, 0] (some 0) T_X8_hoursOf := by
  refine MtS.mk (B := E_X8_hoursOf) (by decide +kernel) (by decide) (fun _ _ _ hh => hh) ?_
  intro X Q e1 e2 e3 hC hN hT
  subst e1
  have hC : CF X cX8_hoursOf RX8 WALL := hC
  have S_41 : SdS X 41 [(0, 18), (1, 0)] [0, 18] (B_X8_hoursOf_41 Q) := by
    unfold B_X8_hoursOf_41
    refine su_inv0 (τ := []) (τr := [0]) (ci := 8) (q := (RX8, TX8, 18)) hC WG (M_X8_grant _) rfl rfl rfl rfl  rfl rfl wl_3_225 wl_3_227 wp_34 wl_1_1 wl_3_228 hd_X8_grant (by rw [e3]; decide) (by decide) dX8_hoursOf_41 (?_ : SdS X 44 [(0, 18), (1, 0)] [0] _)
    exact su_ireturn hC hT dX8_hoursOf_44
  refine (?_ : SdS X 0 [(0, 18), (1, 0)] [] (E_X8_hoursOf Q))
  unfold E_X8_hoursOf
  refine su_aload_n hC 18 dX8_hoursOf_0 rfl (by decide) (by decide) (?_ : SdS X 1 [(0, 18), (1, 0)] [18] _)
  refine su_iload_n hC dX8_hoursOf_1 rfl (by decide) (?_ : SdS X 2 [(0, 18), (1, 0)] [0, 18] _)
  refine su_inv0 (τ := []) (τr := [0]) (ci := 8) (q := (RX8, TX8, 18)) hC WG (M_X8_isOrder _) rfl rfl rfl rfl  rfl rfl wl_4_79 wl_4_81 wp_42 wl_1_1 wl_4_82 hd_X8_isOrder (by rw [e3]; decide) (by decide) dX8_hoursOf_2 (?_ : SdS X 5 [(0, 18), (1, 0)] [0] _)
  refine su_if_ne (tgt := 14) hC dX8_hoursOf_5 rfl (?_ : SdS X 14 [(0, 18), (1, 0)] [] _) (?_ : SdS X 8 [(0, 18), (1, 0)] [] _)
  · refine su_aload_n hC 18 dX8_hoursOf_14 rfl (by decide) (by decide) (?_ : SdS X 15 [(0, 18), (1, 0)] [18] _)
    refine su_aload_n hC 18 dX8_hoursOf_15 rfl (by decide) (by decide) (?_ : SdS X 16 [(0, 18), (1, 0)] [18, 18] _)
    refine su_getR hC (ci := 8) (j := 6) (C := RX8) (T := TX8) (N := 18) rfl rfl (by decide) in_X8 wl_2_114 rfl dX8_hoursOf_16 (?_ : SdS X 19 [(0, 18), (1, 0)] [117, 18] _)
    refine su_iload_n hC dX8_hoursOf_19 rfl (by decide) (?_ : SdS X 20 [(0, 18), (1, 0)] [0, 117, 18] _)
    refine su_aaload (e := 17) hC (List.mem_of_getElem? (i := 6) rfl) rfl rfl rfl dX8_hoursOf_20 (?_ : SdS X 21 [(0, 18), (1, 0)] [17, 18] _)
    refine su_getF hC (ci := 7) (j := 0) (C := RX7) (T := TX7) (N := 7) rfl rfl (by decide) in_X7 wl_1_235 rfl dX8_hoursOf_21 (?_ : SdS X 24 [(0, 18), (1, 0)] [0, 18] _)
    refine su_if_eq (tgt := 39) hC dX8_hoursOf_24 rfl (?_ : SdS X 39 [(0, 18), (1, 0)] [18] _) (?_ : SdS X 27 [(0, 18), (1, 0)] [18] _)
    · refine su_bipush hC dX8_hoursOf_39 (by decide) (?_ : SdS X 41 [(0, 18), (1, 0)] [0, 18] _)
      exact SdS.weak (by decide) (S_41)
    · refine su_aload_n hC 18 dX8_hoursOf_27 rfl (by decide) (by decide) (?_ : SdS X 28 [(0, 18), (1, 0)] [18, 18] _)
      refine su_getR hC (ci := 8) (j := 6) (C := RX8) (T := TX8) (N := 18) rfl rfl (by decide) in_X8 wl_2_114 rfl dX8_hoursOf_28 (?_ : SdS X 31 [(0, 18), (1, 0)] [117, 18] _)
      refine su_iload_n hC dX8_hoursOf_31 rfl (by decide) (?_ : SdS X 32 [(0, 18), (1, 0)] [0, 117, 18] _)
      refine su_aaload (e := 17) hC (List.mem_of_getElem? (i := 6) rfl) rfl rfl rfl dX8_hoursOf_32 (?_ : SdS X 33 [(0, 18), (1, 0)] [17, 18] _)
      refine su_getF hC (ci := 7) (j := 3) (C := RX7) (T := TX7) (N := 7) rfl rfl (by decide) in_X7 wl_2_3 rfl dX8_hoursOf_33 (?_ : SdS X 36 [(0, 18), (1, 0)] [0, 18] _)
      refine su_goto (tgt := 41) hC dX8_hoursOf_36 rfl (?_ : SdS X 41 [(0, 18), (1, 0)] [0, 18] _)
      exact SdS.weak (by decide) (S_41)
  · refine su_aload_n hC 18 dX8_hoursOf_8 rfl (by decide) (by decide) (?_ : SdS X 9 [(0, 18), (1, 0)] [18] _)
    refine su_iconst hC dX8_hoursOf_9 ⟨by decide, by decide⟩ (?_ : SdS X 10 [(0, 18), (1, 0)] [0, 18] _)
    refine su_inv0 (τ := []) (τr := [0]) (ci := 8) (q := (RX8, TX8, 18)) hC WG (M_X8_refuse _) rfl rfl rfl rfl  rfl rfl wl_2_175 wl_2_177 wp_1 wl_1_1 wl_2_178 hd_X8_refuse (by rw [e3]; decide) (by decide) dX8_hoursOf_10 (?_ : SdS X 13 [(0, 18), (1, 0)] [0] _)
    exact su_ireturn hC hT dX8_hoursOf_13
theorem wl_1_28 : Cond.methodLink RX8 1 Lib.objectInit ∈ WALL := tb1 (List.mem_of_getElem? (i := 28) rfl) rfl
theorem wl_1_31 : Cond.classLink RX8 13 RX1 ∈ WALL := tb1 (List.mem_of_getElem? (i := 31) rfl) rfl
theorem wl_1_32 : Cond.instantiable RX1 12 ∈ WALL := tb1 (List.mem_of_getElem? (i := 32) rfl) rfl
theorem wl_1_33 : Cond.methodLink RX8 15 yX1_init ∈ WALL := tb1 (List.mem_of_getElem? (i := 33) rfl) rfl
theorem wl_1_34 : Cond.instanceMethod yX1_init ∈ WALL := tb1 (List.mem_of_getElem? (i := 34) rfl) rfl
theorem wl_1_35 : Cond.code yX1_init cX1_init 2 none ∈ WALL := tb1 (List.mem_of_getElem? (i := 35) rfl) rfl
theorem wl_1_146 : Cond.classLink RX8 23 RX4 ∈ WALL := tb1 (List.mem_of_getElem? (i := 146) rfl) rfl
theorem wl_1_147 : Cond.instantiable RX4 15 ∈ WALL := tb1 (List.mem_of_getElem? (i := 147) rfl) rfl
theorem wl_1_148 : Cond.methodLink RX8 25 yX4_init ∈ WALL := tb1 (List.mem_of_getElem? (i := 148) rfl) rfl
theorem wl_1_149 : Cond.instanceMethod yX4_init ∈ WALL := tb1 (List.mem_of_getElem? (i := 149) rfl) rfl
theorem wl_1_150 : Cond.code yX4_init cX4_init 3 none ∈ WALL := tb1 (List.mem_of_getElem? (i := 150) rfl) rfl
theorem wl_1_200 : Cond.classLink RX8 32 RX3 ∈ WALL := tb1 (List.mem_of_getElem? (i := 200) rfl) rfl
theorem wl_1_201 : Cond.instantiable RX3 6 ∈ WALL := tb1 (List.mem_of_getElem? (i := 201) rfl) rfl
theorem wl_1_202 : Cond.methodLink RX8 34 yX3_init ∈ WALL := tb1 (List.mem_of_getElem? (i := 202) rfl) rfl
theorem wl_1_203 : Cond.instanceMethod yX3_init ∈ WALL := tb1 (List.mem_of_getElem? (i := 203) rfl) rfl
theorem wl_1_204 : Cond.code yX3_init cX3_init 2 none ∈ WALL := tb1 (List.mem_of_getElem? (i := 204) rfl) rfl
theorem wl_1_225 : Cond.classLink RX8 41 RX7 ∈ WALL := tb1 (List.mem_of_getElem? (i := 225) rfl) rfl
theorem wl_1_227 : Cond.instantiable RX7 7 ∈ WALL := tb1 (List.mem_of_getElem? (i := 227) rfl) rfl
theorem wl_1_228 : Cond.methodLink RX8 47 yX7_init ∈ WALL := tb1 (List.mem_of_getElem? (i := 228) rfl) rfl
theorem wl_1_229 : Cond.instanceMethod yX7_init ∈ WALL := tb1 (List.mem_of_getElem? (i := 229) rfl) rfl
theorem wl_1_230 : Cond.code yX7_init cX7_init 1 none ∈ WALL := tb1 (List.mem_of_getElem? (i := 230) rfl) rfl
theorem wl_2_29 : Cond.classLink RX8 55 RX2 ∈ WALL := tb2 (List.mem_of_getElem? (i := 29) rfl) rfl
theorem wl_2_30 : Cond.instantiable RX2 10 ∈ WALL := tb2 (List.mem_of_getElem? (i := 30) rfl) rfl
theorem wl_2_31 : Cond.methodLink RX8 57 yX2_init ∈ WALL := tb2 (List.mem_of_getElem? (i := 31) rfl) rfl
theorem wl_2_32 : Cond.instanceMethod yX2_init ∈ WALL := tb2 (List.mem_of_getElem? (i := 32) rfl) rfl
theorem wl_2_33 : Cond.code yX2_init cX2_init 3 none ∈ WALL := tb2 (List.mem_of_getElem? (i := 33) rfl) rfl
theorem wl_2_75 : Cond.classLink RX8 68 RX0 ∈ WALL := tb2 (List.mem_of_getElem? (i := 75) rfl) rfl
theorem wl_2_76 : Cond.instantiable RX0 2 ∈ WALL := tb2 (List.mem_of_getElem? (i := 76) rfl) rfl
theorem wl_2_77 : Cond.methodLink RX8 70 yX0_init ∈ WALL := tb2 (List.mem_of_getElem? (i := 77) rfl) rfl
theorem wl_2_78 : Cond.instanceMethod yX0_init ∈ WALL := tb2 (List.mem_of_getElem? (i := 78) rfl) rfl
theorem wl_2_79 : Cond.code yX0_init cX0_init 1 none ∈ WALL := tb2 (List.mem_of_getElem? (i := 79) rfl) rfl
theorem wl_2_90 : Cond.classLink RX8 75 RX5 ∈ WALL := tb2 (List.mem_of_getElem? (i := 90) rfl) rfl
theorem wl_2_91 : Cond.instantiable RX5 3 ∈ WALL := tb2 (List.mem_of_getElem? (i := 91) rfl) rfl
theorem wl_2_92 : Cond.methodLink RX8 77 yX5_init ∈ WALL := tb2 (List.mem_of_getElem? (i := 92) rfl) rfl
theorem wl_2_93 : Cond.instanceMethod yX5_init ∈ WALL := tb2 (List.mem_of_getElem? (i := 93) rfl) rfl
theorem wl_2_94 : Cond.code yX5_init cX5_init 1 none ∈ WALL := tb2 (List.mem_of_getElem? (i := 94) rfl) rfl
theorem wl_2_121 : Cond.fieldLink RX8 78 "NarrowRings" "thief" "LNarrowRings$Thief;" ∈ WALL := tb2 (List.mem_of_getElem? (i := 121) rfl) rfl
theorem wl_2_106 : Cond.classLink RX8 82 RX6 ∈ WALL := tb2 (List.mem_of_getElem? (i := 106) rfl) rfl
theorem wl_2_107 : Cond.methodLink RX8 84 yX6_init ∈ WALL := tb2 (List.mem_of_getElem? (i := 107) rfl) rfl
theorem wl_2_122 : Cond.fieldLink RX8 85 "NarrowRings" "rammer" "LNarrowRings$Thing;" ∈ WALL := tb2 (List.mem_of_getElem? (i := 122) rfl) rfl
theorem hd_X8_init : yX8_init.cls ≠ "java/lang/invoke/MethodHandle" ∧ yX8_init.cls ≠ "java/lang/invoke/VarHandle" ∧ (parseMethodDescriptor yX8_init.desc).map (fun d => d.parameters.length) = some 0 := by decide +kernel
set_option maxRecDepth 100000 in
set_option maxHeartbeats 4000000 in
theorem M_X8_init (l : Launch) : MtS l yX8_init (Cond.code yX8_init cX8_init 2 none :: WALL) { frames := 3, cells := 328, slots := 5521, locals := 61 } [18] none T_X8_init := by
  refine MtS.mk (B := E_X8_init) (by decide +kernel) (by decide) (fun _ _ _ hh => hh) ?_
  intro X Q e1 e2 e3 hC hN hT
  subst e1
  have hC : CF X cX8_init RX8 WALL := hC
  have S_153 : SdS X 153 [(0, 18), (1, 0)] [] (L_X8_init_153 Q) := by
    unfold L_X8_init_153
    refine SdS.loop (fun k153 h153 => ?_)
    refine su_iload_n hC dX8_init_153 rfl (by decide) (?_ : SdS X 154 [(0, 18), (1, 0)] [0] _)
    refine su_iconst hC dX8_init_154 ⟨by decide, by decide⟩ (?_ : SdS X 155 [(0, 18), (1, 0)] [0, 0] _)
    refine su_icmp_ge (tgt := 185) hC dX8_init_155 rfl (?_ : SdS X 185 [(0, 18), (1, 0)] [] _) (?_ : SdS X 158 [(0, 18), (1, 0)] [] _)
    · refine su_aload_n hC 18 dX8_init_185 rfl (by decide) (by decide) (?_ : SdS X 186 [(0, 18), (1, 0)] [18] _)
      refine su_new hC (ci := 0) (C := RX0) (T := TX0) (N := 2) tyX0 tyX0_ok (by decide) rfl in_X0 wl_2_75 wl_2_76 wl_1_8 (by rw [e3]) (by rw [e3]) dX8_init_186 (?_ : SdS X 189 [(0, 18), (1, 0)] [10, 18] _)
      refine su_dup hC (by decide) dX8_init_189 (?_ : SdS X 190 [(0, 18), (1, 0)] [10, 10, 18] _)
      refine su_invi (τ := [10, 18]) (τr := []) (ci := 0) hC WG (M_X0_init _) rfl rfl rfl rfl (by rw [e3]) (by rw [e3]) rfl wl_2_77 wl_2_78 wl_1_8 wl_2_79 hd_X0_init (by rw [e3]; decide) (by decide) dX8_init_190 (?_ : SdS X 193 [(0, 18), (1, 0)] [10, 18] _)
      refine su_putRF hC (ci := 8) (j := 12) (C := RX8) (T := TX8) (N := 18) tyX8 tyX8_ok nmX8 rfl rfl (by decide) in_X8 rfl rfl rfl hN wl_2_120 rfl dX8_init_193 (?_ : SdS X 196 [(0, 18), (1, 0)] [] _)
      refine su_aload_n hC 18 dX8_init_196 rfl (by decide) (by decide) (?_ : SdS X 197 [(0, 18), (1, 0)] [18] _)
      refine su_new hC (ci := 5) (C := RX5) (T := TX5) (N := 3) tyX5 tyX5_ok (by decide) rfl in_X5 wl_2_90 wl_2_91 wl_1_9 (by rw [e3]) (by rw [e3]) dX8_init_197 (?_ : SdS X 200 [(0, 18), (1, 0)] [15, 18] _)
      refine su_dup hC (by decide) dX8_init_200 (?_ : SdS X 201 [(0, 18), (1, 0)] [15, 15, 18] _)
      refine su_invi (τ := [15, 18]) (τr := []) (ci := 5) hC WG (M_X5_init _) rfl rfl rfl rfl (by rw [e3]) (by rw [e3]) rfl wl_2_92 wl_2_93 wl_1_9 wl_2_94 hd_X5_init (by rw [e3]; decide) (by decide) dX8_init_201 (?_ : SdS X 204 [(0, 18), (1, 0)] [15, 18] _)
      refine su_putRF hC (ci := 8) (j := 13) (C := RX8) (T := TX8) (N := 18) tyX8 tyX8_ok nmX8 rfl rfl (by decide) in_X8 rfl rfl rfl hN wl_2_121 rfl dX8_init_204 (?_ : SdS X 207 [(0, 18), (1, 0)] [] _)
      refine su_aload_n hC 18 dX8_init_207 rfl (by decide) (by decide) (?_ : SdS X 208 [(0, 18), (1, 0)] [18] _)
      refine su_new hC (ci := 6) (C := RX6) (T := TX6) (N := 7) tyX6 tyX6_ok (by decide) rfl in_X6 wl_2_106 wl_1_41 wl_1_3 (by rw [e3]) (by rw [e3]) dX8_init_208 (?_ : SdS X 211 [(0, 18), (1, 0)] [16, 18] _)
      refine su_dup hC (by decide) dX8_init_211 (?_ : SdS X 212 [(0, 18), (1, 0)] [16, 16, 18] _)
      refine su_invi (τ := [16, 18]) (τr := []) (ci := 6) hC WG (M_X6_init _) rfl rfl rfl rfl (by rw [e3]) (by rw [e3]) rfl wl_2_107 wl_1_43 wl_1_3 wl_1_44 hd_X6_init (by rw [e3]; decide) (by decide) dX8_init_212 (?_ : SdS X 215 [(0, 18), (1, 0)] [16, 18] _)
      refine su_putRF hC (ci := 8) (j := 14) (C := RX8) (T := TX8) (N := 18) tyX8 tyX8_ok nmX8 rfl rfl (by decide) in_X8 rfl rfl rfl hN wl_2_122 rfl dX8_init_215 (?_ : SdS X 218 [(0, 18), (1, 0)] [] _)
      exact su_return hC hT dX8_init_218
    · refine su_aload_n hC 18 dX8_init_158 rfl (by decide) (by decide) (?_ : SdS X 159 [(0, 18), (1, 0)] [18] _)
      refine su_getR hC (ci := 8) (j := 10) (C := RX8) (T := TX8) (N := 18) rfl rfl (by decide) in_X8 wl_2_118 rfl dX8_init_159 (?_ : SdS X 162 [(0, 18), (1, 0)] [112] _)
      refine su_iload_n hC dX8_init_162 rfl (by decide) (?_ : SdS X 163 [(0, 18), (1, 0)] [0, 112] _)
      refine su_new hC (ci := 2) (C := RX2) (T := TX2) (N := 10) tyX2 tyX2_ok (by decide) rfl in_X2 wl_2_29 wl_2_30 wl_1_7 (by rw [e3]) (by rw [e3]) dX8_init_163 (?_ : SdS X 166 [(0, 18), (1, 0)] [12, 0, 112] _)
      refine su_dup hC (by decide) dX8_init_166 (?_ : SdS X 167 [(0, 18), (1, 0)] [12, 12, 0, 112] _)
      refine su_aload_n hC 18 dX8_init_167 rfl (by decide) (by decide) (?_ : SdS X 168 [(0, 18), (1, 0)] [18, 12, 12, 0, 112] _)
      refine su_getR hC (ci := 8) (j := 2) (C := RX8) (T := TX8) (N := 18) rfl rfl (by decide) in_X8 wl_2_110 rfl dX8_init_168 (?_ : SdS X 171 [(0, 18), (1, 0)] [11, 12, 12, 0, 112] _)
      refine su_aload_n hC 18 dX8_init_171 rfl (by decide) (by decide) (?_ : SdS X 172 [(0, 18), (1, 0)] [18, 11, 12, 12, 0, 112] _)
      refine su_getR hC (ci := 8) (j := 6) (C := RX8) (T := TX8) (N := 18) rfl rfl (by decide) in_X8 wl_2_114 rfl dX8_init_172 (?_ : SdS X 175 [(0, 18), (1, 0)] [117, 11, 12, 12, 0, 112] _)
      refine su_invi (τ := [12, 0, 112]) (τr := [11, 117]) (ci := 2) hC WG (M_X2_init _) rfl rfl rfl rfl (by rw [e3]) (by rw [e3]) rfl wl_2_31 wl_2_32 wl_1_7 wl_2_33 hd_X2_init (by rw [e3]; decide) (by decide) dX8_init_175 (?_ : SdS X 178 [(0, 18), (1, 0)] [12, 0, 112] _)
      refine su_aastore hC (ci := 2) (q := (RX2, TX2, 10)) (List.mem_of_getElem? (i := 4) rfl) rfl dX8_init_178 (?_ : SdS X 179 [(0, 18), (1, 0)] [] _)
      refine su_iinc (Γ' := [(0, 18), (1, 0)]) hC dX8_init_179 (by decide) (by rw [e2]; decide) (by decide) (?_ : SdS X 182 [(0, 18), (1, 0)] [] _)
      refine su_goto (tgt := 153) hC dX8_init_182 rfl (?_ : SdS X 153 [(0, 18), (1, 0)] [] _)
      exact SdS.weak (by decide) h153
  have S_80 : SdS X 80 [(0, 18), (1, 0)] [] (L_X8_init_80 Q) := by
    unfold L_X8_init_80
    refine SdS.loop (fun k80 h80 => ?_)
    refine su_iload_n hC dX8_init_80 rfl (by decide) (?_ : SdS X 81 [(0, 18), (1, 0)] [0] _)
    refine su_bipush hC dX8_init_81 (by decide) (?_ : SdS X 83 [(0, 18), (1, 0)] [0, 0] _)
    refine su_icmp_ge (tgt := 105) hC dX8_init_83 rfl (?_ : SdS X 105 [(0, 18), (1, 0)] [] _) (?_ : SdS X 86 [(0, 18), (1, 0)] [] _)
    · refine su_aload_n hC 18 dX8_init_105 rfl (by decide) (by decide) (?_ : SdS X 106 [(0, 18), (1, 0)] [18] _)
      refine su_new hC (ci := 7) (C := RX7) (T := TX7) (N := 7) tyX7 tyX7_ok (by decide) rfl in_X7 wl_1_225 wl_1_227 wl_1_6 (by rw [e3]) (by rw [e3]) dX8_init_106 (?_ : SdS X 109 [(0, 18), (1, 0)] [17, 18] _)
      refine su_dup hC (by decide) dX8_init_109 (?_ : SdS X 110 [(0, 18), (1, 0)] [17, 17, 18] _)
      refine su_invi (τ := [17, 18]) (τr := []) (ci := 7) hC WG (M_X7_init _) rfl rfl rfl rfl (by rw [e3]) (by rw [e3]) rfl wl_1_228 wl_1_229 wl_1_6 wl_1_230 hd_X7_init (by rw [e3]; decide) (by decide) dX8_init_110 (?_ : SdS X 113 [(0, 18), (1, 0)] [17, 18] _)
      refine su_putRF hC (ci := 8) (j := 7) (C := RX8) (T := TX8) (N := 18) tyX8 tyX8_ok nmX8 rfl rfl (by decide) in_X8 rfl rfl rfl hN wl_2_115 rfl dX8_init_113 (?_ : SdS X 116 [(0, 18), (1, 0)] [] _)
      refine su_aload_n hC 18 dX8_init_116 rfl (by decide) (by decide) (?_ : SdS X 117 [(0, 18), (1, 0)] [18] _)
      refine su_bipush hC dX8_init_117 (by decide) (?_ : SdS X 119 [(0, 18), (1, 0)] [0, 18] _)
      refine su_newa hC (atype := .int) (e := 0) (List.mem_of_getElem? (i := 0) rfl) (fun C z => by cases z) rfl (by decide) wl_1_76 (by rw [e3]) (by rw [e3]) dX8_init_119 (?_ : SdS X 121 [(0, 18), (1, 0)] [100, 18] _)
      refine su_putRF hC (ci := 8) (j := 8) (C := RX8) (T := TX8) (N := 18) tyX8 tyX8_ok nmX8 rfl rfl (by decide) in_X8 rfl rfl rfl hN wl_2_116 rfl dX8_init_121 (?_ : SdS X 124 [(0, 18), (1, 0)] [] _)
      refine su_aload_n hC 18 dX8_init_124 rfl (by decide) (by decide) (?_ : SdS X 125 [(0, 18), (1, 0)] [18] _)
      refine su_new hC (ci := 2) (C := RX2) (T := TX2) (N := 10) tyX2 tyX2_ok (by decide) rfl in_X2 wl_2_29 wl_2_30 wl_1_7 (by rw [e3]) (by rw [e3]) dX8_init_125 (?_ : SdS X 128 [(0, 18), (1, 0)] [12, 18] _)
      refine su_dup hC (by decide) dX8_init_128 (?_ : SdS X 129 [(0, 18), (1, 0)] [12, 12, 18] _)
      refine su_aload_n hC 18 dX8_init_129 rfl (by decide) (by decide) (?_ : SdS X 130 [(0, 18), (1, 0)] [18, 12, 12, 18] _)
      refine su_getR hC (ci := 8) (j := 2) (C := RX8) (T := TX8) (N := 18) rfl rfl (by decide) in_X8 wl_2_110 rfl dX8_init_130 (?_ : SdS X 133 [(0, 18), (1, 0)] [11, 12, 12, 18] _)
      refine su_aload_n hC 18 dX8_init_133 rfl (by decide) (by decide) (?_ : SdS X 134 [(0, 18), (1, 0)] [18, 11, 12, 12, 18] _)
      refine su_getR hC (ci := 8) (j := 6) (C := RX8) (T := TX8) (N := 18) rfl rfl (by decide) in_X8 wl_2_114 rfl dX8_init_134 (?_ : SdS X 137 [(0, 18), (1, 0)] [117, 11, 12, 12, 18] _)
      refine su_invi (τ := [12, 18]) (τr := [11, 117]) (ci := 2) hC WG (M_X2_init _) rfl rfl rfl rfl (by rw [e3]) (by rw [e3]) rfl wl_2_31 wl_2_32 wl_1_7 wl_2_33 hd_X2_init (by rw [e3]; decide) (by decide) dX8_init_137 (?_ : SdS X 140 [(0, 18), (1, 0)] [12, 18] _)
      refine su_putRF hC (ci := 8) (j := 9) (C := RX8) (T := TX8) (N := 18) tyX8 tyX8_ok nmX8 rfl rfl (by decide) in_X8 rfl rfl rfl hN wl_2_117 rfl dX8_init_140 (?_ : SdS X 143 [(0, 18), (1, 0)] [] _)
      refine su_aload_n hC 18 dX8_init_143 rfl (by decide) (by decide) (?_ : SdS X 144 [(0, 18), (1, 0)] [18] _)
      refine su_iconst hC dX8_init_144 ⟨by decide, by decide⟩ (?_ : SdS X 145 [(0, 18), (1, 0)] [0, 18] _)
      refine su_anew hC (C := RX2) (e := 12) (List.mem_of_getElem? (i := 4) rfl) rfl (by decide) wl_2_29 (by rw [e3]) (by rw [e3]) dX8_init_145 (?_ : SdS X 148 [(0, 18), (1, 0)] [112, 18] _)
      refine su_putRF hC (ci := 8) (j := 10) (C := RX8) (T := TX8) (N := 18) tyX8 tyX8_ok nmX8 rfl rfl (by decide) in_X8 rfl rfl rfl hN wl_2_118 rfl dX8_init_148 (?_ : SdS X 151 [(0, 18), (1, 0)] [] _)
      refine su_iconst hC dX8_init_151 ⟨by decide, by decide⟩ (?_ : SdS X 152 [(0, 18), (1, 0)] [0] _)
      refine su_istore_n (Γ' := [(0, 18), (1, 0)]) hC dX8_init_152 rfl (by rw [e2]; decide) (by decide) (?_ : SdS X 153 [(0, 18), (1, 0)] [] _)
      exact SdS.weak (by decide) (S_153)
    · refine su_aload_n hC 18 dX8_init_86 rfl (by decide) (by decide) (?_ : SdS X 87 [(0, 18), (1, 0)] [18] _)
      refine su_getR hC (ci := 8) (j := 6) (C := RX8) (T := TX8) (N := 18) rfl rfl (by decide) in_X8 wl_2_114 rfl dX8_init_87 (?_ : SdS X 90 [(0, 18), (1, 0)] [117] _)
      refine su_iload_n hC dX8_init_90 rfl (by decide) (?_ : SdS X 91 [(0, 18), (1, 0)] [0, 117] _)
      refine su_new hC (ci := 7) (C := RX7) (T := TX7) (N := 7) tyX7 tyX7_ok (by decide) rfl in_X7 wl_1_225 wl_1_227 wl_1_6 (by rw [e3]) (by rw [e3]) dX8_init_91 (?_ : SdS X 94 [(0, 18), (1, 0)] [17, 0, 117] _)
      refine su_dup hC (by decide) dX8_init_94 (?_ : SdS X 95 [(0, 18), (1, 0)] [17, 17, 0, 117] _)
      refine su_invi (τ := [17, 0, 117]) (τr := []) (ci := 7) hC WG (M_X7_init _) rfl rfl rfl rfl (by rw [e3]) (by rw [e3]) rfl wl_1_228 wl_1_229 wl_1_6 wl_1_230 hd_X7_init (by rw [e3]; decide) (by decide) dX8_init_95 (?_ : SdS X 98 [(0, 18), (1, 0)] [17, 0, 117] _)
      refine su_aastore hC (ci := 7) (q := (RX7, TX7, 7)) (List.mem_of_getElem? (i := 6) rfl) rfl dX8_init_98 (?_ : SdS X 99 [(0, 18), (1, 0)] [] _)
      refine su_iinc (Γ' := [(0, 18), (1, 0)]) hC dX8_init_99 (by decide) (by rw [e2]; decide) (by decide) (?_ : SdS X 102 [(0, 18), (1, 0)] [] _)
      refine su_goto (tgt := 80) hC dX8_init_102 rfl (?_ : SdS X 80 [(0, 18), (1, 0)] [] _)
      exact SdS.weak (by decide) h80
  refine (?_ : SdS X 0 [(0, 18)] [] (E_X8_init Q))
  unfold E_X8_init
  refine su_aload_n hC 18 dX8_init_0 rfl (by decide) (by decide) (?_ : SdS X 1 [(0, 18)] [18] _)
  refine su_objInit hC (by decide) wl_1_28 wl_1_29 wl_1_30 (by rw [e3]; decide) (by decide) dX8_init_1 (?_ : SdS X 4 [(0, 18)] [] _)
  refine su_aload_n hC 18 dX8_init_4 rfl (by decide) (by decide) (?_ : SdS X 5 [(0, 18)] [18] _)
  refine su_sipush hC dX8_init_5 (by decide) (?_ : SdS X 8 [(0, 18)] [0, 18] _)
  refine su_newa hC (atype := .int) (e := 0) (List.mem_of_getElem? (i := 0) rfl) (fun C z => by cases z) rfl (by decide) wl_1_76 (by rw [e3]) (by rw [e3]) dX8_init_8 (?_ : SdS X 10 [(0, 18)] [100, 18] _)
  refine su_putRF hC (ci := 8) (j := 0) (C := RX8) (T := TX8) (N := 18) tyX8 tyX8_ok nmX8 rfl rfl (by decide) in_X8 rfl rfl rfl hN wl_2_108 rfl dX8_init_10 (?_ : SdS X 13 [(0, 18)] [] _)
  refine su_aload_n hC 18 dX8_init_13 rfl (by decide) (by decide) (?_ : SdS X 14 [(0, 18)] [18] _)
  refine su_new hC (ci := 1) (C := RX1) (T := TX1) (N := 12) tyX1 tyX1_ok (by decide) rfl in_X1 wl_1_31 wl_1_32 wl_1_2 (by rw [e3]) (by rw [e3]) dX8_init_14 (?_ : SdS X 17 [(0, 18)] [11, 18] _)
  refine su_dup hC (by decide) dX8_init_17 (?_ : SdS X 18 [(0, 18)] [11, 11, 18] _)
  refine su_invi (τ := [11, 18]) (τr := []) (ci := 1) hC WG (M_X1_init _) rfl rfl rfl rfl (by rw [e3]) (by rw [e3]) rfl wl_1_33 wl_1_34 wl_1_2 wl_1_35 hd_X1_init (by rw [e3]; decide) (by decide) dX8_init_18 (?_ : SdS X 21 [(0, 18)] [11, 18] _)
  refine su_putR hC (ci := 8) (j := 2) (C := RX8) (T := TX8) (N := 18) tyX8 tyX8_ok nmX8 rfl rfl (by decide) in_X8 rfl rfl wl_2_110 rfl dX8_init_21 (?_ : SdS X 24 [(0, 18)] [] _)
  refine su_aload_n hC 18 dX8_init_24 rfl (by decide) (by decide) (?_ : SdS X 25 [(0, 18)] [18] _)
  refine su_new hC (ci := 1) (C := RX1) (T := TX1) (N := 12) tyX1 tyX1_ok (by decide) rfl in_X1 wl_1_31 wl_1_32 wl_1_2 (by rw [e3]) (by rw [e3]) dX8_init_25 (?_ : SdS X 28 [(0, 18)] [11, 18] _)
  refine su_dup hC (by decide) dX8_init_28 (?_ : SdS X 29 [(0, 18)] [11, 11, 18] _)
  refine su_invi (τ := [11, 18]) (τr := []) (ci := 1) hC WG (M_X1_init _) rfl rfl rfl rfl (by rw [e3]) (by rw [e3]) rfl wl_1_33 wl_1_34 wl_1_2 wl_1_35 hd_X1_init (by rw [e3]; decide) (by decide) dX8_init_29 (?_ : SdS X 32 [(0, 18)] [11, 18] _)
  refine su_putR hC (ci := 8) (j := 3) (C := RX8) (T := TX8) (N := 18) tyX8 tyX8_ok nmX8 rfl rfl (by decide) in_X8 rfl rfl wl_2_111 rfl dX8_init_32 (?_ : SdS X 35 [(0, 18)] [] _)
  refine su_aload_n hC 18 dX8_init_35 rfl (by decide) (by decide) (?_ : SdS X 36 [(0, 18)] [18] _)
  refine su_new hC (ci := 4) (C := RX4) (T := TX4) (N := 15) tyX4 tyX4_ok (by decide) rfl in_X4 wl_1_146 wl_1_147 wl_1_4 (by rw [e3]) (by rw [e3]) dX8_init_36 (?_ : SdS X 39 [(0, 18)] [14, 18] _)
  refine su_dup hC (by decide) dX8_init_39 (?_ : SdS X 40 [(0, 18)] [14, 14, 18] _)
  refine su_aload_n hC 18 dX8_init_40 rfl (by decide) (by decide) (?_ : SdS X 41 [(0, 18)] [18, 14, 14, 18] _)
  refine su_getR hC (ci := 8) (j := 0) (C := RX8) (T := TX8) (N := 18) rfl rfl (by decide) in_X8 wl_2_108 rfl dX8_init_41 (?_ : SdS X 44 [(0, 18)] [100, 14, 14, 18] _)
  refine su_aload_n hC 18 dX8_init_44 rfl (by decide) (by decide) (?_ : SdS X 45 [(0, 18)] [18, 100, 14, 14, 18] _)
  refine su_getR hC (ci := 8) (j := 3) (C := RX8) (T := TX8) (N := 18) rfl rfl (by decide) in_X8 wl_2_111 rfl dX8_init_45 (?_ : SdS X 48 [(0, 18)] [11, 100, 14, 14, 18] _)
  refine su_invi (τ := [14, 18]) (τr := [100, 11]) (ci := 4) hC WG (M_X4_init _) rfl rfl rfl rfl (by rw [e3]) (by rw [e3]) rfl wl_1_148 wl_1_149 wl_1_4 wl_1_150 hd_X4_init (by rw [e3]; decide) (by decide) dX8_init_48 (?_ : SdS X 51 [(0, 18)] [14, 18] _)
  refine su_putRF hC (ci := 8) (j := 4) (C := RX8) (T := TX8) (N := 18) tyX8 tyX8_ok nmX8 rfl rfl (by decide) in_X8 rfl rfl rfl hN wl_2_112 rfl dX8_init_51 (?_ : SdS X 54 [(0, 18)] [] _)
  refine su_aload_n hC 18 dX8_init_54 rfl (by decide) (by decide) (?_ : SdS X 55 [(0, 18)] [18] _)
  refine su_new hC (ci := 3) (C := RX3) (T := TX3) (N := 6) tyX3 tyX3_ok (by decide) rfl in_X3 wl_1_200 wl_1_201 wl_1_5 (by rw [e3]) (by rw [e3]) dX8_init_55 (?_ : SdS X 58 [(0, 18)] [13, 18] _)
  refine su_dup hC (by decide) dX8_init_58 (?_ : SdS X 59 [(0, 18)] [13, 13, 18] _)
  refine su_aload_n hC 18 dX8_init_59 rfl (by decide) (by decide) (?_ : SdS X 60 [(0, 18)] [18, 13, 13, 18] _)
  refine su_getR hC (ci := 8) (j := 2) (C := RX8) (T := TX8) (N := 18) rfl rfl (by decide) in_X8 wl_2_110 rfl dX8_init_60 (?_ : SdS X 63 [(0, 18)] [11, 13, 13, 18] _)
  refine su_invi (τ := [13, 18]) (τr := [11]) (ci := 3) hC WG (M_X3_init _) rfl rfl rfl rfl (by rw [e3]) (by rw [e3]) rfl wl_1_202 wl_1_203 wl_1_5 wl_1_204 hd_X3_init (by rw [e3]; decide) (by decide) dX8_init_63 (?_ : SdS X 66 [(0, 18)] [13, 18] _)
  refine su_putRF hC (ci := 8) (j := 5) (C := RX8) (T := TX8) (N := 18) tyX8 tyX8_ok nmX8 rfl rfl (by decide) in_X8 rfl rfl rfl hN wl_2_113 rfl dX8_init_66 (?_ : SdS X 69 [(0, 18)] [] _)
  refine su_aload_n hC 18 dX8_init_69 rfl (by decide) (by decide) (?_ : SdS X 70 [(0, 18)] [18] _)
  refine su_bipush hC dX8_init_70 (by decide) (?_ : SdS X 72 [(0, 18)] [0, 18] _)
  refine su_anew hC (C := RX7) (e := 17) (List.mem_of_getElem? (i := 6) rfl) rfl (by decide) wl_1_225 (by rw [e3]) (by rw [e3]) dX8_init_72 (?_ : SdS X 75 [(0, 18)] [117, 18] _)
  refine su_putRF hC (ci := 8) (j := 6) (C := RX8) (T := TX8) (N := 18) tyX8 tyX8_ok nmX8 rfl rfl (by decide) in_X8 rfl rfl rfl hN wl_2_114 rfl dX8_init_75 (?_ : SdS X 78 [(0, 18)] [] _)
  refine su_iconst hC dX8_init_78 ⟨by decide, by decide⟩ (?_ : SdS X 79 [(0, 18)] [0] _)
  refine su_istore_n (Γ' := [(0, 18), (1, 0)]) hC dX8_init_79 rfl (by rw [e2]; decide) (by decide) (?_ : SdS X 80 [(0, 18), (1, 0)] [] _)
  exact SdS.weak (by decide) (S_80)
theorem wl_2_39 : Cond.fieldLink RX8 225 "NarrowRings$Day" "loads" "I" ∈ WALL := tb2 (List.mem_of_getElem? (i := 39) rfl) rfl
theorem wl_2_41 : Cond.fieldLink RX8 226 "NarrowRings$Day" "row" "[[I" ∈ WALL := tb2 (List.mem_of_getElem? (i := 41) rfl) rfl
theorem hd_X8_load : yX8_load.cls ≠ "java/lang/invoke/MethodHandle" ∧ yX8_load.cls ≠ "java/lang/invoke/VarHandle" ∧ (parseMethodDescriptor yX8_load.desc).map (fun d => d.parameters.length) = some 2 := by decide +kernel
set_option maxRecDepth 100000 in
set_option maxHeartbeats 4000000 in
theorem M_X8_load (l : Launch) : MtS l yX8_load (Cond.code yX8_load cX8_load 3 (some .int) :: WALL) { frames := 1, cells := 0, slots := 0, locals := 21 } [18, 0, 0] (some 0) T_X8_load := by
  refine MtS.mk (B := E_X8_load) (by decide +kernel) (by decide) (fun _ _ _ hh => hh) ?_
  intro X Q e1 e2 e3 hC hN hT
  subst e1
  have hC : CF X cX8_load RX8 WALL := hC
  have S_23 : SdS X 23 [(0, 18), (1, 0), (2, 0)] [] (B_X8_load_23 Q) := by
    unfold B_X8_load_23
    refine su_aload_n hC 18 dX8_load_23 rfl (by decide) (by decide) (?_ : SdS X 24 [(0, 18), (1, 0), (2, 0)] [18] _)
    refine su_iconst hC dX8_load_24 ⟨by decide, by decide⟩ (?_ : SdS X 25 [(0, 18), (1, 0), (2, 0)] [0, 18] _)
    refine su_inv0 (τ := []) (τr := [0]) (ci := 8) (q := (RX8, TX8, 18)) hC WG (M_X8_refuse _) rfl rfl rfl rfl  rfl rfl wl_2_175 wl_2_177 wp_1 wl_1_1 wl_2_178 hd_X8_refuse (by rw [e3]; decide) (by decide) dX8_load_25 (?_ : SdS X 28 [(0, 18), (1, 0), (2, 0)] [0] _)
    exact su_ireturn hC hT dX8_load_28
  refine (?_ : SdS X 0 [(0, 18), (1, 0), (2, 0)] [] (E_X8_load Q))
  unfold E_X8_load
  refine su_iload_n hC dX8_load_0 rfl (by decide) (?_ : SdS X 1 [(0, 18), (1, 0), (2, 0)] [0] _)
  refine su_aload_n hC 18 dX8_load_1 rfl (by decide) (by decide) (?_ : SdS X 2 [(0, 18), (1, 0), (2, 0)] [18, 0] _)
  refine su_getR hC (ci := 8) (j := 9) (C := RX8) (T := TX8) (N := 18) rfl rfl (by decide) in_X8 wl_2_117 rfl dX8_load_2 (?_ : SdS X 5 [(0, 18), (1, 0), (2, 0)] [12, 0] _)
  refine su_getF hC (ci := 2) (j := 1) (C := RX2) (T := TX2) (N := 10) rfl rfl (by decide) in_X2 wl_2_39 rfl dX8_load_5 (?_ : SdS X 8 [(0, 18), (1, 0), (2, 0)] [0, 0] _)
  refine su_invs (τ := []) (τs := [0, 0]) hC false "" WG (M_X8_within _) rfl rfl rfl rfl wl_4_6 wl_4_7 wl_1_1 wl_4_8 hd_X8_within (by rw [e3]; decide) (by decide) dX8_load_8 (?_ : SdS X 11 [(0, 18), (1, 0), (2, 0)] [0] _)
  refine su_if_eq (tgt := 23) hC dX8_load_11 rfl (?_ : SdS X 23 [(0, 18), (1, 0), (2, 0)] [] _) (?_ : SdS X 14 [(0, 18), (1, 0), (2, 0)] [] _)
  · exact SdS.weak (by decide) (S_23)
  · refine su_iload_n hC dX8_load_14 rfl (by decide) (?_ : SdS X 15 [(0, 18), (1, 0), (2, 0)] [0] _)
    refine su_bipush hC dX8_load_15 (by decide) (?_ : SdS X 17 [(0, 18), (1, 0), (2, 0)] [0, 0] _)
    refine su_invs (τ := []) (τs := [0, 0]) hC false "" WG (M_X8_within _) rfl rfl rfl rfl wl_4_6 wl_4_7 wl_1_1 wl_4_8 hd_X8_within (by rw [e3]; decide) (by decide) dX8_load_17 (?_ : SdS X 20 [(0, 18), (1, 0), (2, 0)] [0] _)
    refine su_if_ne (tgt := 29) hC dX8_load_20 rfl (?_ : SdS X 29 [(0, 18), (1, 0), (2, 0)] [] _) (?_ : SdS X 23 [(0, 18), (1, 0), (2, 0)] [] _)
    · refine su_aload_n hC 18 dX8_load_29 rfl (by decide) (by decide) (?_ : SdS X 30 [(0, 18), (1, 0), (2, 0)] [18] _)
      refine su_aload_n hC 18 dX8_load_30 rfl (by decide) (by decide) (?_ : SdS X 31 [(0, 18), (1, 0), (2, 0)] [18, 18] _)
      refine su_getR hC (ci := 8) (j := 9) (C := RX8) (T := TX8) (N := 18) rfl rfl (by decide) in_X8 wl_2_117 rfl dX8_load_31 (?_ : SdS X 34 [(0, 18), (1, 0), (2, 0)] [12, 18] _)
      refine su_getR hC (ci := 2) (j := 2) (C := RX2) (T := TX2) (N := 10) rfl rfl (by decide) in_X2 wl_2_41 rfl dX8_load_34 (?_ : SdS X 37 [(0, 18), (1, 0), (2, 0)] [200, 18] _)
      refine su_iload_n hC dX8_load_37 rfl (by decide) (?_ : SdS X 38 [(0, 18), (1, 0), (2, 0)] [0, 200, 18] _)
      refine su_aaload (e := 100) hC (List.mem_of_getElem? (i := 7) rfl) rfl rfl rfl dX8_load_38 (?_ : SdS X 39 [(0, 18), (1, 0), (2, 0)] [100, 18] _)
      refine su_iload_n hC dX8_load_39 rfl (by decide) (?_ : SdS X 40 [(0, 18), (1, 0), (2, 0)] [0, 100, 18] _)
      refine su_iaload hC dX8_load_40 (?_ : SdS X 41 [(0, 18), (1, 0), (2, 0)] [0, 18] _)
      refine su_inv0 (τ := []) (τr := [0]) (ci := 8) (q := (RX8, TX8, 18)) hC WG (M_X8_grant _) rfl rfl rfl rfl  rfl rfl wl_3_225 wl_3_227 wp_34 wl_1_1 wl_3_228 hd_X8_grant (by rw [e3]; decide) (by decide) dX8_load_41 (?_ : SdS X 44 [(0, 18), (1, 0), (2, 0)] [0] _)
      exact su_ireturn hC hT dX8_load_44
    · exact SdS.weak (by decide) (S_23)
theorem hd_X8_loads : yX8_loads.cls ≠ "java/lang/invoke/MethodHandle" ∧ yX8_loads.cls ≠ "java/lang/invoke/VarHandle" ∧ (parseMethodDescriptor yX8_loads.desc).map (fun d => d.parameters.length) = some 0 := by decide +kernel
set_option maxRecDepth 100000 in
set_option maxHeartbeats 4000000 in
theorem M_X8_loads (l : Launch) : MtS l yX8_loads (Cond.code yX8_loads cX8_loads 1 (some .int) :: WALL) { frames := 1, cells := 0, slots := 0, locals := 21 } [18] (some 0) T_X8_loads := by
  refine MtS.mk (B := E_X8_loads) (by decide +kernel) (by decide) (fun _ _ _ hh => hh) ?_
  intro X Q e1 e2 e3 hC hN hT
  subst e1
  have hC : CF X cX8_loads RX8 WALL := hC
  refine (?_ : SdS X 0 [(0, 18)] [] (E_X8_loads Q))
  unfold E_X8_loads
  refine su_aload_n hC 18 dX8_loads_0 rfl (by decide) (by decide) (?_ : SdS X 1 [(0, 18)] [18] _)
  refine su_inv0 (τ := []) (τr := []) (ci := 8) (q := (RX8, TX8, 18)) hC WG (M_X8_isCity _) rfl rfl rfl rfl  rfl rfl wl_4_99 wl_4_101 wp_43 wl_1_1 wl_4_102 hd_X8_isCity (by rw [e3]; decide) (by decide) dX8_loads_1 (?_ : SdS X 4 [(0, 18)] [0] _)
  refine su_if_ne (tgt := 13) hC dX8_loads_4 rfl (?_ : SdS X 13 [(0, 18)] [] _) (?_ : SdS X 7 [(0, 18)] [] _)
  · refine su_aload_n hC 18 dX8_loads_13 rfl (by decide) (by decide) (?_ : SdS X 14 [(0, 18)] [18] _)
    refine su_aload_n hC 18 dX8_loads_14 rfl (by decide) (by decide) (?_ : SdS X 15 [(0, 18)] [18, 18] _)
    refine su_getR hC (ci := 8) (j := 9) (C := RX8) (T := TX8) (N := 18) rfl rfl (by decide) in_X8 wl_2_117 rfl dX8_loads_15 (?_ : SdS X 18 [(0, 18)] [12, 18] _)
    refine su_getF hC (ci := 2) (j := 1) (C := RX2) (T := TX2) (N := 10) rfl rfl (by decide) in_X2 wl_2_39 rfl dX8_loads_18 (?_ : SdS X 21 [(0, 18)] [0, 18] _)
    refine su_inv0 (τ := []) (τr := [0]) (ci := 8) (q := (RX8, TX8, 18)) hC WG (M_X8_grant _) rfl rfl rfl rfl  rfl rfl wl_3_225 wl_3_227 wp_34 wl_1_1 wl_3_228 hd_X8_grant (by rw [e3]; decide) (by decide) dX8_loads_21 (?_ : SdS X 24 [(0, 18)] [0] _)
    exact su_ireturn hC hT dX8_loads_24
  · refine su_aload_n hC 18 dX8_loads_7 rfl (by decide) (by decide) (?_ : SdS X 8 [(0, 18)] [18] _)
    refine su_iconst hC dX8_loads_8 ⟨by decide, by decide⟩ (?_ : SdS X 9 [(0, 18)] [0, 18] _)
    refine su_inv0 (τ := []) (τr := [0]) (ci := 8) (q := (RX8, TX8, 18)) hC WG (M_X8_refuse _) rfl rfl rfl rfl  rfl rfl wl_2_175 wl_2_177 wp_1 wl_1_1 wl_2_178 hd_X8_refuse (by rw [e3]; decide) (by decide) dX8_loads_9 (?_ : SdS X 12 [(0, 18)] [0] _)
    exact su_ireturn hC hT dX8_loads_12
theorem wl_2_6 : Cond.fieldLink RX8 194 "NarrowRings$Way" "loads" "I" ∈ WALL := tb2 (List.mem_of_getElem? (i := 6) rfl) rfl
theorem hd_X8_loadsOf : yX8_loadsOf.cls ≠ "java/lang/invoke/MethodHandle" ∧ yX8_loadsOf.cls ≠ "java/lang/invoke/VarHandle" ∧ (parseMethodDescriptor yX8_loadsOf.desc).map (fun d => d.parameters.length) = some 1 := by decide +kernel
set_option maxRecDepth 100000 in
set_option maxHeartbeats 4000000 in
theorem M_X8_loadsOf (l : Launch) : MtS l yX8_loadsOf (Cond.code yX8_loadsOf cX8_loadsOf 2 (some .int) :: WALL) { frames := 2, cells := 0, slots := 0, locals := 42 } [18, 0] (some 0) T_X8_loadsOf := by
  refine MtS.mk (B := E_X8_loadsOf) (by decide +kernel) (by decide) (fun _ _ _ hh => hh) ?_
  intro X Q e1 e2 e3 hC hN hT
  subst e1
  have hC : CF X cX8_loadsOf RX8 WALL := hC
  refine (?_ : SdS X 0 [(0, 18), (1, 0)] [] (E_X8_loadsOf Q))
  unfold E_X8_loadsOf
  refine su_aload_n hC 18 dX8_loadsOf_0 rfl (by decide) (by decide) (?_ : SdS X 1 [(0, 18), (1, 0)] [18] _)
  refine su_iload_n hC dX8_loadsOf_1 rfl (by decide) (?_ : SdS X 2 [(0, 18), (1, 0)] [0, 18] _)
  refine su_inv0 (τ := []) (τr := [0]) (ci := 8) (q := (RX8, TX8, 18)) hC WG (M_X8_isOrder _) rfl rfl rfl rfl  rfl rfl wl_4_79 wl_4_81 wp_42 wl_1_1 wl_4_82 hd_X8_isOrder (by rw [e3]; decide) (by decide) dX8_loadsOf_2 (?_ : SdS X 5 [(0, 18), (1, 0)] [0] _)
  refine su_if_ne (tgt := 14) hC dX8_loadsOf_5 rfl (?_ : SdS X 14 [(0, 18), (1, 0)] [] _) (?_ : SdS X 8 [(0, 18), (1, 0)] [] _)
  · refine su_aload_n hC 18 dX8_loadsOf_14 rfl (by decide) (by decide) (?_ : SdS X 15 [(0, 18), (1, 0)] [18] _)
    refine su_getR hC (ci := 8) (j := 6) (C := RX8) (T := TX8) (N := 18) rfl rfl (by decide) in_X8 wl_2_114 rfl dX8_loadsOf_15 (?_ : SdS X 18 [(0, 18), (1, 0)] [117] _)
    refine su_iload_n hC dX8_loadsOf_18 rfl (by decide) (?_ : SdS X 19 [(0, 18), (1, 0)] [0, 117] _)
    refine su_aaload (e := 17) hC (List.mem_of_getElem? (i := 6) rfl) rfl rfl rfl dX8_loadsOf_19 (?_ : SdS X 20 [(0, 18), (1, 0)] [17] _)
    refine su_getF hC (ci := 7) (j := 0) (C := RX7) (T := TX7) (N := 7) rfl rfl (by decide) in_X7 wl_1_235 rfl dX8_loadsOf_20 (?_ : SdS X 23 [(0, 18), (1, 0)] [0] _)
    refine su_if_ne (tgt := 33) hC dX8_loadsOf_23 rfl (?_ : SdS X 33 [(0, 18), (1, 0)] [] _) (?_ : SdS X 26 [(0, 18), (1, 0)] [] _)
    · refine su_aload_n hC 18 dX8_loadsOf_33 rfl (by decide) (by decide) (?_ : SdS X 34 [(0, 18), (1, 0)] [18] _)
      refine su_aload_n hC 18 dX8_loadsOf_34 rfl (by decide) (by decide) (?_ : SdS X 35 [(0, 18), (1, 0)] [18, 18] _)
      refine su_getR hC (ci := 8) (j := 6) (C := RX8) (T := TX8) (N := 18) rfl rfl (by decide) in_X8 wl_2_114 rfl dX8_loadsOf_35 (?_ : SdS X 38 [(0, 18), (1, 0)] [117, 18] _)
      refine su_iload_n hC dX8_loadsOf_38 rfl (by decide) (?_ : SdS X 39 [(0, 18), (1, 0)] [0, 117, 18] _)
      refine su_aaload (e := 17) hC (List.mem_of_getElem? (i := 6) rfl) rfl rfl rfl dX8_loadsOf_39 (?_ : SdS X 40 [(0, 18), (1, 0)] [17, 18] _)
      refine su_getF hC (ci := 7) (j := 4) (C := RX7) (T := TX7) (N := 7) rfl rfl (by decide) in_X7 wl_2_6 rfl dX8_loadsOf_40 (?_ : SdS X 43 [(0, 18), (1, 0)] [0, 18] _)
      refine su_inv0 (τ := []) (τr := [0]) (ci := 8) (q := (RX8, TX8, 18)) hC WG (M_X8_grant _) rfl rfl rfl rfl  rfl rfl wl_3_225 wl_3_227 wp_34 wl_1_1 wl_3_228 hd_X8_grant (by rw [e3]; decide) (by decide) dX8_loadsOf_43 (?_ : SdS X 46 [(0, 18), (1, 0)] [0] _)
      exact su_ireturn hC hT dX8_loadsOf_46
    · refine su_aload_n hC 18 dX8_loadsOf_26 rfl (by decide) (by decide) (?_ : SdS X 27 [(0, 18), (1, 0)] [18] _)
      refine su_bipush hC dX8_loadsOf_27 (by decide) (?_ : SdS X 29 [(0, 18), (1, 0)] [0, 18] _)
      refine su_inv0 (τ := []) (τr := [0]) (ci := 8) (q := (RX8, TX8, 18)) hC WG (M_X8_refuse _) rfl rfl rfl rfl  rfl rfl wl_2_175 wl_2_177 wp_1 wl_1_1 wl_2_178 hd_X8_refuse (by rw [e3]; decide) (by decide) dX8_loadsOf_29 (?_ : SdS X 32 [(0, 18), (1, 0)] [0] _)
      exact su_ireturn hC hT dX8_loadsOf_32
  · refine su_aload_n hC 18 dX8_loadsOf_8 rfl (by decide) (by decide) (?_ : SdS X 9 [(0, 18), (1, 0)] [18] _)
    refine su_iconst hC dX8_loadsOf_9 ⟨by decide, by decide⟩ (?_ : SdS X 10 [(0, 18), (1, 0)] [0, 18] _)
    refine su_inv0 (τ := []) (τr := [0]) (ci := 8) (q := (RX8, TX8, 18)) hC WG (M_X8_refuse _) rfl rfl rfl rfl  rfl rfl wl_2_175 wl_2_177 wp_1 wl_1_1 wl_2_178 hd_X8_refuse (by rw [e3]; decide) (by decide) dX8_loadsOf_10 (?_ : SdS X 13 [(0, 18), (1, 0)] [0] _)
    exact su_ireturn hC hT dX8_loadsOf_13
theorem hd_X8_mark : yX8_mark.cls ≠ "java/lang/invoke/MethodHandle" ∧ yX8_mark.cls ≠ "java/lang/invoke/VarHandle" ∧ (parseMethodDescriptor yX8_mark.desc).map (fun d => d.parameters.length) = some 0 := by decide +kernel
set_option maxRecDepth 100000 in
set_option maxHeartbeats 4000000 in
theorem M_X8_mark (l : Launch) : MtS l yX8_mark (Cond.code yX8_mark cX8_mark 1 (some .int) :: WALL) { frames := 2, cells := 0, slots := 0, locals := 48 } [18] (some 0) T_X8_mark := by
  refine MtS.mk (B := E_X8_mark) (by decide +kernel) (by decide) (fun _ _ _ hh => hh) ?_
  intro X Q e1 e2 e3 hC hN hT
  subst e1
  have hC : CF X cX8_mark RX8 WALL := hC
  refine (?_ : SdS X 0 [(0, 18)] [] (E_X8_mark Q))
  unfold E_X8_mark
  refine su_aload_n hC 18 dX8_mark_0 rfl (by decide) (by decide) (?_ : SdS X 1 [(0, 18)] [18] _)
  refine su_inv0 (τ := []) (τr := []) (ci := 8) (q := (RX8, TX8, 18)) hC WG (M_X8_isCity _) rfl rfl rfl rfl  rfl rfl wl_4_99 wl_4_101 wp_43 wl_1_1 wl_4_102 hd_X8_isCity (by rw [e3]; decide) (by decide) dX8_mark_1 (?_ : SdS X 4 [(0, 18)] [0] _)
  refine su_if_ne (tgt := 13) hC dX8_mark_4 rfl (?_ : SdS X 13 [(0, 18)] [] _) (?_ : SdS X 7 [(0, 18)] [] _)
  · refine su_aload_n hC 18 dX8_mark_13 rfl (by decide) (by decide) (?_ : SdS X 14 [(0, 18)] [18] _)
    refine su_getF hC (ci := 8) (j := 11) (C := RX8) (T := TX8) (N := 18) rfl rfl (by decide) in_X8 wl_2_119 rfl dX8_mark_14 (?_ : SdS X 17 [(0, 18)] [0] _)
    refine su_iconst hC dX8_mark_17 ⟨by decide, by decide⟩ (?_ : SdS X 18 [(0, 18)] [0, 0] _)
    refine su_icmp_lt (tgt := 27) hC dX8_mark_18 rfl (?_ : SdS X 27 [(0, 18)] [] _) (?_ : SdS X 21 [(0, 18)] [] _)
    · refine su_aload_n hC 18 dX8_mark_27 rfl (by decide) (by decide) (?_ : SdS X 28 [(0, 18)] [18] _)
      refine su_getR hC (ci := 8) (j := 10) (C := RX8) (T := TX8) (N := 18) rfl rfl (by decide) in_X8 wl_2_118 rfl dX8_mark_28 (?_ : SdS X 31 [(0, 18)] [112] _)
      refine su_aload_n hC 18 dX8_mark_31 rfl (by decide) (by decide) (?_ : SdS X 32 [(0, 18)] [18, 112] _)
      refine su_getF hC (ci := 8) (j := 11) (C := RX8) (T := TX8) (N := 18) rfl rfl (by decide) in_X8 wl_2_119 rfl dX8_mark_32 (?_ : SdS X 35 [(0, 18)] [0, 112] _)
      refine su_aaload (e := 12) hC (List.mem_of_getElem? (i := 4) rfl) rfl rfl rfl dX8_mark_35 (?_ : SdS X 36 [(0, 18)] [12] _)
      refine su_aload_n hC 18 dX8_mark_36 rfl (by decide) (by decide) (?_ : SdS X 37 [(0, 18)] [18, 12] _)
      refine su_getR hC (ci := 8) (j := 9) (C := RX8) (T := TX8) (N := 18) rfl rfl (by decide) in_X8 wl_2_117 rfl dX8_mark_37 (?_ : SdS X 40 [(0, 18)] [12, 12] _)
      refine su_inv0v (τ := []) (τr := [12]) (ci := 2) (q := (RX2, TX2, 10)) hC WG (M_X2_copy _) rfl rfl rfl rfl  rfl rfl wl_4_211 wl_4_212 wl_4_213 wl_1_7 wl_4_214 hd_X2_copy (by rw [e3]; decide) (by decide) dX8_mark_40 (?_ : SdS X 43 [(0, 18)] [] _)
      refine su_aload_n hC 18 dX8_mark_43 rfl (by decide) (by decide) (?_ : SdS X 44 [(0, 18)] [18] _)
      refine su_dup hC (by decide) dX8_mark_44 (?_ : SdS X 45 [(0, 18)] [18, 18] _)
      refine su_getF hC (ci := 8) (j := 11) (C := RX8) (T := TX8) (N := 18) rfl rfl (by decide) in_X8 wl_2_119 rfl dX8_mark_45 (?_ : SdS X 48 [(0, 18)] [0, 18] _)
      refine su_iconst hC dX8_mark_48 ⟨by decide, by decide⟩ (?_ : SdS X 49 [(0, 18)] [0, 0, 18] _)
      refine su_iadd hC dX8_mark_49 (?_ : SdS X 50 [(0, 18)] [0, 18] _)
      refine su_putF hC (ci := 8) (j := 11) (C := RX8) (T := TX8) (N := 18) tyX8 tyX8_ok nmX8 rfl rfl (by decide) in_X8 rfl rfl wl_2_119 rfl dX8_mark_50 (?_ : SdS X 53 [(0, 18)] [] _)
      refine su_aload_n hC 18 dX8_mark_53 rfl (by decide) (by decide) (?_ : SdS X 54 [(0, 18)] [18] _)
      refine su_aload_n hC 18 dX8_mark_54 rfl (by decide) (by decide) (?_ : SdS X 55 [(0, 18)] [18, 18] _)
      refine su_getF hC (ci := 8) (j := 11) (C := RX8) (T := TX8) (N := 18) rfl rfl (by decide) in_X8 wl_2_119 rfl dX8_mark_55 (?_ : SdS X 58 [(0, 18)] [0, 18] _)
      refine su_iconst hC dX8_mark_58 ⟨by decide, by decide⟩ (?_ : SdS X 59 [(0, 18)] [0, 0, 18] _)
      refine su_isub hC dX8_mark_59 (?_ : SdS X 60 [(0, 18)] [0, 18] _)
      refine su_inv0 (τ := []) (τr := [0]) (ci := 8) (q := (RX8, TX8, 18)) hC WG (M_X8_grant _) rfl rfl rfl rfl  rfl rfl wl_3_225 wl_3_227 wp_34 wl_1_1 wl_3_228 hd_X8_grant (by rw [e3]; decide) (by decide) dX8_mark_60 (?_ : SdS X 63 [(0, 18)] [0] _)
      exact su_ireturn hC hT dX8_mark_63
    · refine su_aload_n hC 18 dX8_mark_21 rfl (by decide) (by decide) (?_ : SdS X 22 [(0, 18)] [18] _)
      refine su_iconst hC dX8_mark_22 ⟨by decide, by decide⟩ (?_ : SdS X 23 [(0, 18)] [0, 18] _)
      refine su_inv0 (τ := []) (τr := [0]) (ci := 8) (q := (RX8, TX8, 18)) hC WG (M_X8_refuse _) rfl rfl rfl rfl  rfl rfl wl_2_175 wl_2_177 wp_1 wl_1_1 wl_2_178 hd_X8_refuse (by rw [e3]; decide) (by decide) dX8_mark_23 (?_ : SdS X 26 [(0, 18)] [0] _)
      exact su_ireturn hC hT dX8_mark_26
  · refine su_aload_n hC 18 dX8_mark_7 rfl (by decide) (by decide) (?_ : SdS X 8 [(0, 18)] [18] _)
    refine su_iconst hC dX8_mark_8 ⟨by decide, by decide⟩ (?_ : SdS X 9 [(0, 18)] [0, 18] _)
    refine su_inv0 (τ := []) (τr := [0]) (ci := 8) (q := (RX8, TX8, 18)) hC WG (M_X8_refuse _) rfl rfl rfl rfl  rfl rfl wl_2_175 wl_2_177 wp_1 wl_1_1 wl_2_178 hd_X8_refuse (by rw [e3]; decide) (by decide) dX8_mark_9 (?_ : SdS X 12 [(0, 18)] [0] _)
    exact su_ireturn hC hT dX8_mark_12
theorem wl_2_37 : Cond.fieldLink RX8 210 "NarrowRings$Day" "hour" "I" ∈ WALL := tb2 (List.mem_of_getElem? (i := 37) rfl) rfl
theorem wl_4_111 : Cond.methodLink RX8 213 yX2_goOn ∈ WALL := tb4 (List.mem_of_getElem? (i := 111) rfl) rfl
theorem wl_4_112 : Cond.instanceMethod yX2_goOn ∈ WALL := tb4 (List.mem_of_getElem? (i := 112) rfl) rfl
theorem wl_4_113 : Cond.selects RX2 yX2_goOn yX2_goOn ∈ WALL := tb4 (List.mem_of_getElem? (i := 113) rfl) rfl
theorem wl_4_114 : Cond.code yX2_goOn cX2_goOn 2 none ∈ WALL := tb4 (List.mem_of_getElem? (i := 114) rfl) rfl
theorem hd_X8_pass : yX8_pass.cls ≠ "java/lang/invoke/MethodHandle" ∧ yX8_pass.cls ≠ "java/lang/invoke/VarHandle" ∧ (parseMethodDescriptor yX8_pass.desc).map (fun d => d.parameters.length) = some 1 := by decide +kernel
set_option maxRecDepth 100000 in
set_option maxHeartbeats 4000000 in
theorem M_X8_pass (l : Launch) : MtS l yX8_pass (Cond.code yX8_pass cX8_pass 3 (some .int) :: WALL) { frames := 5, cells := 0, slots := 0, locals := 111 } [18, 0] (some 0) T_X8_pass := by
  refine MtS.mk (B := E_X8_pass) (by decide +kernel) (by decide) (fun _ _ _ hh => hh) ?_
  intro X Q e1 e2 e3 hC hN hT
  subst e1
  have hC : CF X cX8_pass RX8 WALL := hC
  have S_24 : SdS X 24 [(0, 18), (1, 0)] [] (B_X8_pass_24 Q) := by
    unfold B_X8_pass_24
    refine su_aload_n hC 18 dX8_pass_24 rfl (by decide) (by decide) (?_ : SdS X 25 [(0, 18), (1, 0)] [18] _)
    refine su_iconst hC dX8_pass_25 ⟨by decide, by decide⟩ (?_ : SdS X 26 [(0, 18), (1, 0)] [0, 18] _)
    refine su_inv0 (τ := []) (τr := [0]) (ci := 8) (q := (RX8, TX8, 18)) hC WG (M_X8_refuse _) rfl rfl rfl rfl  rfl rfl wl_2_175 wl_2_177 wp_1 wl_1_1 wl_2_178 hd_X8_refuse (by rw [e3]; decide) (by decide) dX8_pass_26 (?_ : SdS X 29 [(0, 18), (1, 0)] [0] _)
    exact su_ireturn hC hT dX8_pass_29
  have S_52 : SdS X 52 [(0, 18), (1, 0), (2, 0)] [] (L_X8_pass_52 Q) := by
    unfold L_X8_pass_52
    refine SdS.loop (fun k52 h52 => ?_)
    refine su_iload_n hC dX8_pass_52 rfl (by decide) (?_ : SdS X 53 [(0, 18), (1, 0), (2, 0)] [0] _)
    refine su_iload_n hC dX8_pass_53 rfl (by decide) (?_ : SdS X 54 [(0, 18), (1, 0), (2, 0)] [0, 0] _)
    refine su_icmp_ge (tgt := 70) hC dX8_pass_54 rfl (?_ : SdS X 70 [(0, 18), (1, 0), (2, 0)] [] _) (?_ : SdS X 57 [(0, 18), (1, 0), (2, 0)] [] _)
    · refine su_aload_n hC 18 dX8_pass_70 rfl (by decide) (by decide) (?_ : SdS X 71 [(0, 18), (1, 0), (2, 0)] [18] _)
      refine su_aload_n hC 18 dX8_pass_71 rfl (by decide) (by decide) (?_ : SdS X 72 [(0, 18), (1, 0), (2, 0)] [18, 18] _)
      refine su_getR hC (ci := 8) (j := 9) (C := RX8) (T := TX8) (N := 18) rfl rfl (by decide) in_X8 wl_2_117 rfl dX8_pass_72 (?_ : SdS X 75 [(0, 18), (1, 0), (2, 0)] [12, 18] _)
      refine su_getF hC (ci := 2) (j := 0) (C := RX2) (T := TX2) (N := 10) rfl rfl (by decide) in_X2 wl_2_37 rfl dX8_pass_75 (?_ : SdS X 78 [(0, 18), (1, 0), (2, 0)] [0, 18] _)
      refine su_inv0 (τ := []) (τr := [0]) (ci := 8) (q := (RX8, TX8, 18)) hC WG (M_X8_grant _) rfl rfl rfl rfl  rfl rfl wl_3_225 wl_3_227 wp_34 wl_1_1 wl_3_228 hd_X8_grant (by rw [e3]; decide) (by decide) dX8_pass_78 (?_ : SdS X 81 [(0, 18), (1, 0), (2, 0)] [0] _)
      exact su_ireturn hC hT dX8_pass_81
    · refine su_aload_n hC 18 dX8_pass_57 rfl (by decide) (by decide) (?_ : SdS X 58 [(0, 18), (1, 0), (2, 0)] [18] _)
      refine su_getR hC (ci := 8) (j := 9) (C := RX8) (T := TX8) (N := 18) rfl rfl (by decide) in_X8 wl_2_117 rfl dX8_pass_58 (?_ : SdS X 61 [(0, 18), (1, 0), (2, 0)] [12] _)
      refine su_inv0v (τ := []) (τr := []) (ci := 2) (q := (RX2, TX2, 10)) hC WG (M_X2_goOn _) rfl rfl rfl rfl  rfl rfl wl_4_111 wl_4_112 wl_4_113 wl_1_7 wl_4_114 hd_X2_goOn (by rw [e3]; decide) (by decide) dX8_pass_61 (?_ : SdS X 64 [(0, 18), (1, 0), (2, 0)] [] _)
      refine su_iinc (Γ' := [(0, 18), (1, 0), (2, 0)]) hC dX8_pass_64 (by decide) (by rw [e2]; decide) (by decide) (?_ : SdS X 67 [(0, 18), (1, 0), (2, 0)] [] _)
      refine su_goto (tgt := 52) hC dX8_pass_67 rfl (?_ : SdS X 52 [(0, 18), (1, 0), (2, 0)] [] _)
      exact SdS.weak (by decide) h52
  refine (?_ : SdS X 0 [(0, 18), (1, 0)] [] (E_X8_pass Q))
  unfold E_X8_pass
  refine su_aload_n hC 18 dX8_pass_0 rfl (by decide) (by decide) (?_ : SdS X 1 [(0, 18), (1, 0)] [18] _)
  refine su_inv0 (τ := []) (τr := []) (ci := 8) (q := (RX8, TX8, 18)) hC WG (M_X8_isCity _) rfl rfl rfl rfl  rfl rfl wl_4_99 wl_4_101 wp_43 wl_1_1 wl_4_102 hd_X8_isCity (by rw [e3]; decide) (by decide) dX8_pass_1 (?_ : SdS X 4 [(0, 18), (1, 0)] [0] _)
  refine su_if_ne (tgt := 13) hC dX8_pass_4 rfl (?_ : SdS X 13 [(0, 18), (1, 0)] [] _) (?_ : SdS X 7 [(0, 18), (1, 0)] [] _)
  · refine su_iload_n hC dX8_pass_13 rfl (by decide) (?_ : SdS X 14 [(0, 18), (1, 0)] [0] _)
    refine su_iconst hC dX8_pass_14 ⟨by decide, by decide⟩ (?_ : SdS X 15 [(0, 18), (1, 0)] [0, 0] _)
    refine su_icmp_lt (tgt := 24) hC dX8_pass_15 rfl (?_ : SdS X 24 [(0, 18), (1, 0)] [] _) (?_ : SdS X 18 [(0, 18), (1, 0)] [] _)
    · exact SdS.weak (by decide) (S_24)
    · refine su_iload_n hC dX8_pass_18 rfl (by decide) (?_ : SdS X 19 [(0, 18), (1, 0)] [0] _)
      refine su_bipush hC dX8_pass_19 (by decide) (?_ : SdS X 21 [(0, 18), (1, 0)] [0, 0] _)
      refine su_icmp_le (tgt := 30) hC dX8_pass_21 rfl (?_ : SdS X 30 [(0, 18), (1, 0)] [] _) (?_ : SdS X 24 [(0, 18), (1, 0)] [] _)
      · refine su_aload_n hC 18 dX8_pass_30 rfl (by decide) (by decide) (?_ : SdS X 31 [(0, 18), (1, 0)] [18] _)
        refine su_getR hC (ci := 8) (j := 9) (C := RX8) (T := TX8) (N := 18) rfl rfl (by decide) in_X8 wl_2_117 rfl dX8_pass_31 (?_ : SdS X 34 [(0, 18), (1, 0)] [12] _)
        refine su_getF hC (ci := 2) (j := 0) (C := RX2) (T := TX2) (N := 10) rfl rfl (by decide) in_X2 wl_2_37 rfl dX8_pass_34 (?_ : SdS X 37 [(0, 18), (1, 0)] [0] _)
        refine su_iload_n hC dX8_pass_37 rfl (by decide) (?_ : SdS X 38 [(0, 18), (1, 0)] [0, 0] _)
        refine su_iadd hC dX8_pass_38 (?_ : SdS X 39 [(0, 18), (1, 0)] [0] _)
        refine su_bipush hC dX8_pass_39 (by decide) (?_ : SdS X 41 [(0, 18), (1, 0)] [0, 0] _)
        refine su_icmp_le (tgt := 50) hC dX8_pass_41 rfl (?_ : SdS X 50 [(0, 18), (1, 0)] [] _) (?_ : SdS X 44 [(0, 18), (1, 0)] [] _)
        · refine su_iconst hC dX8_pass_50 ⟨by decide, by decide⟩ (?_ : SdS X 51 [(0, 18), (1, 0)] [0] _)
          refine su_istore_n (Γ' := [(0, 18), (1, 0), (2, 0)]) hC dX8_pass_51 rfl (by rw [e2]; decide) (by decide) (?_ : SdS X 52 [(0, 18), (1, 0), (2, 0)] [] _)
          exact SdS.weak (by decide) (S_52)
        · refine su_aload_n hC 18 dX8_pass_44 rfl (by decide) (by decide) (?_ : SdS X 45 [(0, 18), (1, 0)] [18] _)
          refine su_iconst hC dX8_pass_45 ⟨by decide, by decide⟩ (?_ : SdS X 46 [(0, 18), (1, 0)] [0, 18] _)
          refine su_inv0 (τ := []) (τr := [0]) (ci := 8) (q := (RX8, TX8, 18)) hC WG (M_X8_refuse _) rfl rfl rfl rfl  rfl rfl wl_2_175 wl_2_177 wp_1 wl_1_1 wl_2_178 hd_X8_refuse (by rw [e3]; decide) (by decide) dX8_pass_46 (?_ : SdS X 49 [(0, 18), (1, 0)] [0] _)
          exact su_ireturn hC hT dX8_pass_49
      · exact SdS.weak (by decide) (S_24)
  · refine su_aload_n hC 18 dX8_pass_7 rfl (by decide) (by decide) (?_ : SdS X 8 [(0, 18), (1, 0)] [18] _)
    refine su_iconst hC dX8_pass_8 ⟨by decide, by decide⟩ (?_ : SdS X 9 [(0, 18), (1, 0)] [0, 18] _)
    refine su_inv0 (τ := []) (τr := [0]) (ci := 8) (q := (RX8, TX8, 18)) hC WG (M_X8_refuse _) rfl rfl rfl rfl  rfl rfl wl_2_175 wl_2_177 wp_1 wl_1_1 wl_2_178 hd_X8_refuse (by rw [e3]; decide) (by decide) dX8_pass_9 (?_ : SdS X 12 [(0, 18), (1, 0)] [0] _)
    exact su_ireturn hC hT dX8_pass_12
theorem hd_X8_pay : yX8_pay.cls ≠ "java/lang/invoke/MethodHandle" ∧ yX8_pay.cls ≠ "java/lang/invoke/VarHandle" ∧ (parseMethodDescriptor yX8_pay.desc).map (fun d => d.parameters.length) = some 5 := by decide +kernel
set_option maxRecDepth 100000 in
set_option maxHeartbeats 4000000 in
theorem M_X8_pay (l : Launch) : MtS l yX8_pay (Cond.code yX8_pay cX8_pay 6 (some .int) :: WALL) { frames := 6, cells := 0, slots := 0, locals := 149 } [18, 0, 0, 0, 0, 0] (some 0) T_X8_pay := by
  refine MtS.mk (B := E_X8_pay) (by decide +kernel) (by decide) (fun _ _ _ hh => hh) ?_
  intro X Q e1 e2 e3 hC hN hT
  subst e1
  have hC : CF X cX8_pay RX8 WALL := hC
  have S_43 : SdS X 43 [(0, 18), (1, 0), (2, 0), (3, 0), (4, 0), (5, 0)] [0, 18] (B_X8_pay_43 Q) := by
    unfold B_X8_pay_43
    refine su_inv0 (τ := []) (τr := [0]) (ci := 8) (q := (RX8, TX8, 18)) hC WG (M_X8_grant _) rfl rfl rfl rfl  rfl rfl wl_3_225 wl_3_227 wp_34 wl_1_1 wl_3_228 hd_X8_grant (by rw [e3]; decide) (by decide) dX8_pay_43 (?_ : SdS X 46 [(0, 18), (1, 0), (2, 0), (3, 0), (4, 0), (5, 0)] [0] _)
    exact su_ireturn hC hT dX8_pay_46
  refine (?_ : SdS X 0 [(0, 18), (1, 0), (2, 0), (3, 0), (4, 0), (5, 0)] [] (E_X8_pay Q))
  unfold E_X8_pay
  refine su_aload_n hC 18 dX8_pay_0 rfl (by decide) (by decide) (?_ : SdS X 1 [(0, 18), (1, 0), (2, 0), (3, 0), (4, 0), (5, 0)] [18] _)
  refine su_iload_n hC dX8_pay_1 rfl (by decide) (?_ : SdS X 2 [(0, 18), (1, 0), (2, 0), (3, 0), (4, 0), (5, 0)] [0, 18] _)
  refine su_iload_n hC dX8_pay_2 rfl (by decide) (?_ : SdS X 3 [(0, 18), (1, 0), (2, 0), (3, 0), (4, 0), (5, 0)] [0, 0, 18] _)
  refine su_iload_n hC dX8_pay_3 rfl (by decide) (?_ : SdS X 4 [(0, 18), (1, 0), (2, 0), (3, 0), (4, 0), (5, 0)] [0, 0, 0, 18] _)
  refine su_iload hC dX8_pay_4 (by decide) (?_ : SdS X 6 [(0, 18), (1, 0), (2, 0), (3, 0), (4, 0), (5, 0)] [0, 0, 0, 0, 18] _)
  refine su_iload hC dX8_pay_6 (by decide) (?_ : SdS X 8 [(0, 18), (1, 0), (2, 0), (3, 0), (4, 0), (5, 0)] [0, 0, 0, 0, 0, 18] _)
  refine su_inv0 (τ := []) (τr := [0, 0, 0, 0, 0]) (ci := 8) (q := (RX8, TX8, 18)) hC WG (M_X8_ask _) rfl rfl rfl rfl  rfl rfl wl_4_63 wl_4_65 wp_40 wl_1_1 wl_4_66 hd_X8_ask (by rw [e3]; decide) (by decide) dX8_pay_8 (?_ : SdS X 11 [(0, 18), (1, 0), (2, 0), (3, 0), (4, 0), (5, 0)] [0] _)
  refine su_if_ne (tgt := 20) hC dX8_pay_11 rfl (?_ : SdS X 20 [(0, 18), (1, 0), (2, 0), (3, 0), (4, 0), (5, 0)] [] _) (?_ : SdS X 14 [(0, 18), (1, 0), (2, 0), (3, 0), (4, 0), (5, 0)] [] _)
  · refine su_aload_n hC 18 dX8_pay_20 rfl (by decide) (by decide) (?_ : SdS X 21 [(0, 18), (1, 0), (2, 0), (3, 0), (4, 0), (5, 0)] [18] _)
    refine su_aload_n hC 18 dX8_pay_21 rfl (by decide) (by decide) (?_ : SdS X 22 [(0, 18), (1, 0), (2, 0), (3, 0), (4, 0), (5, 0)] [18, 18] _)
    refine su_getR hC (ci := 8) (j := 7) (C := RX8) (T := TX8) (N := 18) rfl rfl (by decide) in_X8 wl_2_115 rfl dX8_pay_22 (?_ : SdS X 25 [(0, 18), (1, 0), (2, 0), (3, 0), (4, 0), (5, 0)] [17, 18] _)
    refine su_getF hC (ci := 7) (j := 0) (C := RX7) (T := TX7) (N := 7) rfl rfl (by decide) in_X7 wl_1_235 rfl dX8_pay_25 (?_ : SdS X 28 [(0, 18), (1, 0), (2, 0), (3, 0), (4, 0), (5, 0)] [0, 18] _)
    refine su_if_eq (tgt := 41) hC dX8_pay_28 rfl (?_ : SdS X 41 [(0, 18), (1, 0), (2, 0), (3, 0), (4, 0), (5, 0)] [18] _) (?_ : SdS X 31 [(0, 18), (1, 0), (2, 0), (3, 0), (4, 0), (5, 0)] [18] _)
    · refine su_bipush hC dX8_pay_41 (by decide) (?_ : SdS X 43 [(0, 18), (1, 0), (2, 0), (3, 0), (4, 0), (5, 0)] [0, 18] _)
      exact SdS.weak (by decide) (S_43)
    · refine su_aload_n hC 18 dX8_pay_31 rfl (by decide) (by decide) (?_ : SdS X 32 [(0, 18), (1, 0), (2, 0), (3, 0), (4, 0), (5, 0)] [18, 18] _)
      refine su_getR hC (ci := 8) (j := 7) (C := RX8) (T := TX8) (N := 18) rfl rfl (by decide) in_X8 wl_2_115 rfl dX8_pay_32 (?_ : SdS X 35 [(0, 18), (1, 0), (2, 0), (3, 0), (4, 0), (5, 0)] [17, 18] _)
      refine su_getF hC (ci := 7) (j := 2) (C := RX7) (T := TX7) (N := 7) rfl rfl (by decide) in_X7 wl_2_0 rfl dX8_pay_35 (?_ : SdS X 38 [(0, 18), (1, 0), (2, 0), (3, 0), (4, 0), (5, 0)] [0, 18] _)
      refine su_goto (tgt := 43) hC dX8_pay_38 rfl (?_ : SdS X 43 [(0, 18), (1, 0), (2, 0), (3, 0), (4, 0), (5, 0)] [0, 18] _)
      exact SdS.weak (by decide) (S_43)
  · refine su_aload_n hC 18 dX8_pay_14 rfl (by decide) (by decide) (?_ : SdS X 15 [(0, 18), (1, 0), (2, 0), (3, 0), (4, 0), (5, 0)] [18] _)
    refine su_iconst hC dX8_pay_15 ⟨by decide, by decide⟩ (?_ : SdS X 16 [(0, 18), (1, 0), (2, 0), (3, 0), (4, 0), (5, 0)] [0, 18] _)
    refine su_inv0 (τ := []) (τr := [0]) (ci := 8) (q := (RX8, TX8, 18)) hC WG (M_X8_refuse _) rfl rfl rfl rfl  rfl rfl wl_2_175 wl_2_177 wp_1 wl_1_1 wl_2_178 hd_X8_refuse (by rw [e3]; decide) (by decide) dX8_pay_16 (?_ : SdS X 19 [(0, 18), (1, 0), (2, 0), (3, 0), (4, 0), (5, 0)] [0] _)
    exact su_ireturn hC hT dX8_pay_19
theorem hd_X8_payOf : yX8_payOf.cls ≠ "java/lang/invoke/MethodHandle" ∧ yX8_payOf.cls ≠ "java/lang/invoke/VarHandle" ∧ (parseMethodDescriptor yX8_payOf.desc).map (fun d => d.parameters.length) = some 1 := by decide +kernel
set_option maxRecDepth 100000 in
set_option maxHeartbeats 4000000 in
theorem M_X8_payOf (l : Launch) : MtS l yX8_payOf (Cond.code yX8_payOf cX8_payOf 2 (some .int) :: WALL) { frames := 2, cells := 0, slots := 0, locals := 42 } [18, 0] (some 0) T_X8_payOf := by
  refine MtS.mk (B := E_X8_payOf) (by decide +kernel) (by decide) (fun _ _ _ hh => hh) ?_
  intro X Q e1 e2 e3 hC hN hT
  subst e1
  have hC : CF X cX8_payOf RX8 WALL := hC
  have S_41 : SdS X 41 [(0, 18), (1, 0)] [0, 18] (B_X8_payOf_41 Q) := by
    unfold B_X8_payOf_41
    refine su_inv0 (τ := []) (τr := [0]) (ci := 8) (q := (RX8, TX8, 18)) hC WG (M_X8_grant _) rfl rfl rfl rfl  rfl rfl wl_3_225 wl_3_227 wp_34 wl_1_1 wl_3_228 hd_X8_grant (by rw [e3]; decide) (by decide) dX8_payOf_41 (?_ : SdS X 44 [(0, 18), (1, 0)] [0] _)
    exact su_ireturn hC hT dX8_payOf_44
  refine (?_ : SdS X 0 [(0, 18), (1, 0)] [] (E_X8_payOf Q))
  unfold E_X8_payOf
  refine su_aload_n hC 18 dX8_payOf_0 rfl (by decide) (by decide) (?_ : SdS X 1 [(0, 18), (1, 0)] [18] _)
  refine su_iload_n hC dX8_payOf_1 rfl (by decide) (?_ : SdS X 2 [(0, 18), (1, 0)] [0, 18] _)
  refine su_inv0 (τ := []) (τr := [0]) (ci := 8) (q := (RX8, TX8, 18)) hC WG (M_X8_isOrder _) rfl rfl rfl rfl  rfl rfl wl_4_79 wl_4_81 wp_42 wl_1_1 wl_4_82 hd_X8_isOrder (by rw [e3]; decide) (by decide) dX8_payOf_2 (?_ : SdS X 5 [(0, 18), (1, 0)] [0] _)
  refine su_if_ne (tgt := 14) hC dX8_payOf_5 rfl (?_ : SdS X 14 [(0, 18), (1, 0)] [] _) (?_ : SdS X 8 [(0, 18), (1, 0)] [] _)
  · refine su_aload_n hC 18 dX8_payOf_14 rfl (by decide) (by decide) (?_ : SdS X 15 [(0, 18), (1, 0)] [18] _)
    refine su_aload_n hC 18 dX8_payOf_15 rfl (by decide) (by decide) (?_ : SdS X 16 [(0, 18), (1, 0)] [18, 18] _)
    refine su_getR hC (ci := 8) (j := 6) (C := RX8) (T := TX8) (N := 18) rfl rfl (by decide) in_X8 wl_2_114 rfl dX8_payOf_16 (?_ : SdS X 19 [(0, 18), (1, 0)] [117, 18] _)
    refine su_iload_n hC dX8_payOf_19 rfl (by decide) (?_ : SdS X 20 [(0, 18), (1, 0)] [0, 117, 18] _)
    refine su_aaload (e := 17) hC (List.mem_of_getElem? (i := 6) rfl) rfl rfl rfl dX8_payOf_20 (?_ : SdS X 21 [(0, 18), (1, 0)] [17, 18] _)
    refine su_getF hC (ci := 7) (j := 0) (C := RX7) (T := TX7) (N := 7) rfl rfl (by decide) in_X7 wl_1_235 rfl dX8_payOf_21 (?_ : SdS X 24 [(0, 18), (1, 0)] [0, 18] _)
    refine su_if_eq (tgt := 39) hC dX8_payOf_24 rfl (?_ : SdS X 39 [(0, 18), (1, 0)] [18] _) (?_ : SdS X 27 [(0, 18), (1, 0)] [18] _)
    · refine su_bipush hC dX8_payOf_39 (by decide) (?_ : SdS X 41 [(0, 18), (1, 0)] [0, 18] _)
      exact SdS.weak (by decide) (S_41)
    · refine su_aload_n hC 18 dX8_payOf_27 rfl (by decide) (by decide) (?_ : SdS X 28 [(0, 18), (1, 0)] [18, 18] _)
      refine su_getR hC (ci := 8) (j := 6) (C := RX8) (T := TX8) (N := 18) rfl rfl (by decide) in_X8 wl_2_114 rfl dX8_payOf_28 (?_ : SdS X 31 [(0, 18), (1, 0)] [117, 18] _)
      refine su_iload_n hC dX8_payOf_31 rfl (by decide) (?_ : SdS X 32 [(0, 18), (1, 0)] [0, 117, 18] _)
      refine su_aaload (e := 17) hC (List.mem_of_getElem? (i := 6) rfl) rfl rfl rfl dX8_payOf_32 (?_ : SdS X 33 [(0, 18), (1, 0)] [17, 18] _)
      refine su_getF hC (ci := 7) (j := 2) (C := RX7) (T := TX7) (N := 7) rfl rfl (by decide) in_X7 wl_2_0 rfl dX8_payOf_33 (?_ : SdS X 36 [(0, 18), (1, 0)] [0, 18] _)
      refine su_goto (tgt := 41) hC dX8_payOf_36 rfl (?_ : SdS X 41 [(0, 18), (1, 0)] [0, 18] _)
      exact SdS.weak (by decide) (S_41)
  · refine su_aload_n hC 18 dX8_payOf_8 rfl (by decide) (by decide) (?_ : SdS X 9 [(0, 18), (1, 0)] [18] _)
    refine su_iconst hC dX8_payOf_9 ⟨by decide, by decide⟩ (?_ : SdS X 10 [(0, 18), (1, 0)] [0, 18] _)
    refine su_inv0 (τ := []) (τr := [0]) (ci := 8) (q := (RX8, TX8, 18)) hC WG (M_X8_refuse _) rfl rfl rfl rfl  rfl rfl wl_2_175 wl_2_177 wp_1 wl_1_1 wl_2_178 hd_X8_refuse (by rw [e3]; decide) (by decide) dX8_payOf_10 (?_ : SdS X 13 [(0, 18), (1, 0)] [0] _)
    exact su_ireturn hC hT dX8_payOf_13
theorem wl_5_5 : Cond.methodLink RX8 262 yX6_measure ∈ WALL := tb5 (List.mem_of_getElem? (i := 5) rfl) rfl
theorem hd_X8_ram : yX8_ram.cls ≠ "java/lang/invoke/MethodHandle" ∧ yX8_ram.cls ≠ "java/lang/invoke/VarHandle" ∧ (parseMethodDescriptor yX8_ram.desc).map (fun d => d.parameters.length) = some 3 := by decide +kernel
set_option maxRecDepth 100000 in
set_option maxHeartbeats 4000000 in
theorem M_X8_ram (l : Launch) : MtS l yX8_ram (Cond.code yX8_ram cX8_ram 4 (some .int) :: WALL) { frames := 5, cells := 0, slots := 0, locals := 120 } [18, 0, 0, 0] (some 0) T_X8_ram := by
  refine MtS.mk (B := E_X8_ram) (by decide +kernel) (by decide) (fun _ _ _ hh => hh) ?_
  intro X Q e1 e2 e3 hC hN hT
  subst e1
  have hC : CF X cX8_ram RX8 WALL := hC
  have S_34 : SdS X 34 [(0, 18), (1, 0), (2, 0), (3, 0)] [] (B_X8_ram_34 Q) := by
    unfold B_X8_ram_34
    refine su_aload_n hC 18 dX8_ram_34 rfl (by decide) (by decide) (?_ : SdS X 35 [(0, 18), (1, 0), (2, 0), (3, 0)] [18] _)
    refine su_iconst hC dX8_ram_35 ⟨by decide, by decide⟩ (?_ : SdS X 36 [(0, 18), (1, 0), (2, 0), (3, 0)] [0, 18] _)
    refine su_inv0 (τ := []) (τr := [0]) (ci := 8) (q := (RX8, TX8, 18)) hC WG (M_X8_refuse _) rfl rfl rfl rfl  rfl rfl wl_2_175 wl_2_177 wp_1 wl_1_1 wl_2_178 hd_X8_refuse (by rw [e3]; decide) (by decide) dX8_ram_36 (?_ : SdS X 39 [(0, 18), (1, 0), (2, 0), (3, 0)] [0] _)
    exact su_ireturn hC hT dX8_ram_39
  refine (?_ : SdS X 0 [(0, 18), (1, 0), (2, 0), (3, 0)] [] (E_X8_ram Q))
  unfold E_X8_ram
  refine su_aload_n hC 18 dX8_ram_0 rfl (by decide) (by decide) (?_ : SdS X 1 [(0, 18), (1, 0), (2, 0), (3, 0)] [18] _)
  refine su_inv0 (τ := []) (τr := []) (ci := 8) (q := (RX8, TX8, 18)) hC WG (M_X8_isCity _) rfl rfl rfl rfl  rfl rfl wl_4_99 wl_4_101 wp_43 wl_1_1 wl_4_102 hd_X8_isCity (by rw [e3]; decide) (by decide) dX8_ram_1 (?_ : SdS X 4 [(0, 18), (1, 0), (2, 0), (3, 0)] [0] _)
  refine su_if_ne (tgt := 13) hC dX8_ram_4 rfl (?_ : SdS X 13 [(0, 18), (1, 0), (2, 0), (3, 0)] [] _) (?_ : SdS X 7 [(0, 18), (1, 0), (2, 0), (3, 0)] [] _)
  · refine su_iload_n hC dX8_ram_13 rfl (by decide) (?_ : SdS X 14 [(0, 18), (1, 0), (2, 0), (3, 0)] [0] _)
    refine su_invs (τ := []) (τs := [0]) hC false "" WG (M_X8_isSize _) rfl rfl rfl rfl wl_4_226 wl_4_227 wl_1_1 wl_4_228 hd_X8_isSize (by rw [e3]; decide) (by decide) dX8_ram_14 (?_ : SdS X 17 [(0, 18), (1, 0), (2, 0), (3, 0)] [0] _)
    refine su_if_eq (tgt := 34) hC dX8_ram_17 rfl (?_ : SdS X 34 [(0, 18), (1, 0), (2, 0), (3, 0)] [] _) (?_ : SdS X 20 [(0, 18), (1, 0), (2, 0), (3, 0)] [] _)
    · exact SdS.weak (by decide) (S_34)
    · refine su_iload_n hC dX8_ram_20 rfl (by decide) (?_ : SdS X 21 [(0, 18), (1, 0), (2, 0), (3, 0)] [0] _)
      refine su_invs (τ := []) (τs := [0]) hC false "" WG (M_X8_isSize _) rfl rfl rfl rfl wl_4_226 wl_4_227 wl_1_1 wl_4_228 hd_X8_isSize (by rw [e3]; decide) (by decide) dX8_ram_21 (?_ : SdS X 24 [(0, 18), (1, 0), (2, 0), (3, 0)] [0] _)
      refine su_if_eq (tgt := 34) hC dX8_ram_24 rfl (?_ : SdS X 34 [(0, 18), (1, 0), (2, 0), (3, 0)] [] _) (?_ : SdS X 27 [(0, 18), (1, 0), (2, 0), (3, 0)] [] _)
      · exact SdS.weak (by decide) (S_34)
      · refine su_iload_n hC dX8_ram_27 rfl (by decide) (?_ : SdS X 28 [(0, 18), (1, 0), (2, 0), (3, 0)] [0] _)
        refine su_invs (τ := []) (τs := [0]) hC false "" WG (M_X8_isSize _) rfl rfl rfl rfl wl_4_226 wl_4_227 wl_1_1 wl_4_228 hd_X8_isSize (by rw [e3]; decide) (by decide) dX8_ram_28 (?_ : SdS X 31 [(0, 18), (1, 0), (2, 0), (3, 0)] [0] _)
        refine su_if_ne (tgt := 40) hC dX8_ram_31 rfl (?_ : SdS X 40 [(0, 18), (1, 0), (2, 0), (3, 0)] [] _) (?_ : SdS X 34 [(0, 18), (1, 0), (2, 0), (3, 0)] [] _)
        · refine su_aload_n hC 18 dX8_ram_40 rfl (by decide) (by decide) (?_ : SdS X 41 [(0, 18), (1, 0), (2, 0), (3, 0)] [18] _)
          refine su_getR hC (ci := 8) (j := 14) (C := RX8) (T := TX8) (N := 18) rfl rfl (by decide) in_X8 wl_2_122 rfl dX8_ram_41 (?_ : SdS X 44 [(0, 18), (1, 0), (2, 0), (3, 0)] [16] _)
          refine su_iload_n hC dX8_ram_44 rfl (by decide) (?_ : SdS X 45 [(0, 18), (1, 0), (2, 0), (3, 0)] [0, 16] _)
          refine su_iload_n hC dX8_ram_45 rfl (by decide) (?_ : SdS X 46 [(0, 18), (1, 0), (2, 0), (3, 0)] [0, 0, 16] _)
          refine su_iload_n hC dX8_ram_46 rfl (by decide) (?_ : SdS X 47 [(0, 18), (1, 0), (2, 0), (3, 0)] [0, 0, 0, 16] _)
          refine su_inv0v (τ := []) (τr := [0, 0, 0]) (ci := 6) (q := (RX6, TX6, 7)) hC WG (M_X6_measure _) rfl rfl rfl rfl  rfl rfl wl_5_5 wl_3_100 wl_3_101 wl_1_3 wl_3_102 hd_X6_measure (by rw [e3]; decide) (by decide) dX8_ram_47 (?_ : SdS X 50 [(0, 18), (1, 0), (2, 0), (3, 0)] [] _)
          refine su_aload_n hC 18 dX8_ram_50 rfl (by decide) (by decide) (?_ : SdS X 51 [(0, 18), (1, 0), (2, 0), (3, 0)] [18] _)
          refine su_aload_n hC 18 dX8_ram_51 rfl (by decide) (by decide) (?_ : SdS X 52 [(0, 18), (1, 0), (2, 0), (3, 0)] [18, 18] _)
          refine su_getR hC (ci := 8) (j := 2) (C := RX8) (T := TX8) (N := 18) rfl rfl (by decide) in_X8 wl_2_110 rfl dX8_ram_52 (?_ : SdS X 55 [(0, 18), (1, 0), (2, 0), (3, 0)] [11, 18] _)
          refine su_aload_n hC 18 dX8_ram_55 rfl (by decide) (by decide) (?_ : SdS X 56 [(0, 18), (1, 0), (2, 0), (3, 0)] [18, 11, 18] _)
          refine su_getR hC (ci := 8) (j := 14) (C := RX8) (T := TX8) (N := 18) rfl rfl (by decide) in_X8 wl_2_122 rfl dX8_ram_56 (?_ : SdS X 59 [(0, 18), (1, 0), (2, 0), (3, 0)] [16, 11, 18] _)
          refine su_iconst hC dX8_ram_59 ⟨by decide, by decide⟩ (?_ : SdS X 60 [(0, 18), (1, 0), (2, 0), (3, 0)] [0, 16, 11, 18] _)
          refine su_inv0 (τ := [18]) (τr := [16, 0]) (ci := 1) (q := (RX1, TX1, 12)) hC WG (M_X1_depthOf _) rfl rfl rfl rfl  rfl rfl wl_4_41 wl_4_42 wl_4_43 wl_1_2 wl_4_44 hd_X1_depthOf (by rw [e3]; decide) (by decide) dX8_ram_60 (?_ : SdS X 63 [(0, 18), (1, 0), (2, 0), (3, 0)] [0, 18] _)
          refine su_inv0 (τ := []) (τr := [0]) (ci := 8) (q := (RX8, TX8, 18)) hC WG (M_X8_grant _) rfl rfl rfl rfl  rfl rfl wl_3_225 wl_3_227 wp_34 wl_1_1 wl_3_228 hd_X8_grant (by rw [e3]; decide) (by decide) dX8_ram_63 (?_ : SdS X 66 [(0, 18), (1, 0), (2, 0), (3, 0)] [0] _)
          exact su_ireturn hC hT dX8_ram_66
        · exact SdS.weak (by decide) (S_34)
  · refine su_aload_n hC 18 dX8_ram_7 rfl (by decide) (by decide) (?_ : SdS X 8 [(0, 18), (1, 0), (2, 0), (3, 0)] [18] _)
    refine su_iconst hC dX8_ram_8 ⟨by decide, by decide⟩ (?_ : SdS X 9 [(0, 18), (1, 0), (2, 0), (3, 0)] [0, 18] _)
    refine su_inv0 (τ := []) (τr := [0]) (ci := 8) (q := (RX8, TX8, 18)) hC WG (M_X8_refuse _) rfl rfl rfl rfl  rfl rfl wl_2_175 wl_2_177 wp_1 wl_1_1 wl_2_178 hd_X8_refuse (by rw [e3]; decide) (by decide) dX8_ram_9 (?_ : SdS X 12 [(0, 18), (1, 0), (2, 0), (3, 0)] [0] _)
    exact su_ireturn hC hT dX8_ram_12
theorem hd_X8_ramBy : yX8_ramBy.cls ≠ "java/lang/invoke/MethodHandle" ∧ yX8_ramBy.cls ≠ "java/lang/invoke/VarHandle" ∧ (parseMethodDescriptor yX8_ramBy.desc).map (fun d => d.parameters.length) = some 5 := by decide +kernel
set_option maxRecDepth 100000 in
set_option maxHeartbeats 4000000 in
theorem M_X8_ramBy (l : Launch) : MtS l yX8_ramBy (Cond.code yX8_ramBy cX8_ramBy 9 (some .int) :: WALL) { frames := 5, cells := 0, slots := 0, locals := 120 } [18, 0, 0, 0, 0, 0] (some 0) T_X8_ramBy := by
  refine MtS.mk (B := E_X8_ramBy) (by decide +kernel) (by decide) (fun _ _ _ hh => hh) ?_
  intro X Q e1 e2 e3 hC hN hT
  subst e1
  have hC : CF X cX8_ramBy RX8 WALL := hC
  have S_44 : SdS X 44 [(0, 18), (1, 0), (2, 0), (3, 0), (4, 0), (5, 0)] [] (B_X8_ramBy_44 Q) := by
    unfold B_X8_ramBy_44
    refine su_aload_n hC 18 dX8_ramBy_44 rfl (by decide) (by decide) (?_ : SdS X 45 [(0, 18), (1, 0), (2, 0), (3, 0), (4, 0), (5, 0)] [18] _)
    refine su_iconst hC dX8_ramBy_45 ⟨by decide, by decide⟩ (?_ : SdS X 46 [(0, 18), (1, 0), (2, 0), (3, 0), (4, 0), (5, 0)] [0, 18] _)
    refine su_inv0 (τ := []) (τr := [0]) (ci := 8) (q := (RX8, TX8, 18)) hC WG (M_X8_refuse _) rfl rfl rfl rfl  rfl rfl wl_2_175 wl_2_177 wp_1 wl_1_1 wl_2_178 hd_X8_refuse (by rw [e3]; decide) (by decide) dX8_ramBy_46 (?_ : SdS X 49 [(0, 18), (1, 0), (2, 0), (3, 0), (4, 0), (5, 0)] [0] _)
    exact su_ireturn hC hT dX8_ramBy_49
  refine (?_ : SdS X 0 [(0, 18), (1, 0), (2, 0), (3, 0), (4, 0), (5, 0)] [] (E_X8_ramBy Q))
  unfold E_X8_ramBy
  refine su_aload_n hC 18 dX8_ramBy_0 rfl (by decide) (by decide) (?_ : SdS X 1 [(0, 18), (1, 0), (2, 0), (3, 0), (4, 0), (5, 0)] [18] _)
  refine su_iload_n hC dX8_ramBy_1 rfl (by decide) (?_ : SdS X 2 [(0, 18), (1, 0), (2, 0), (3, 0), (4, 0), (5, 0)] [0, 18] _)
  refine su_inv0 (τ := []) (τr := [0]) (ci := 8) (q := (RX8, TX8, 18)) hC WG (M_X8_isGate _) rfl rfl rfl rfl  rfl rfl wl_4_2 wl_4_4 wp_35 wl_1_1 wl_4_5 hd_X8_isGate (by rw [e3]; decide) (by decide) dX8_ramBy_2 (?_ : SdS X 5 [(0, 18), (1, 0), (2, 0), (3, 0), (4, 0), (5, 0)] [0] _)
  refine su_if_ne (tgt := 14) hC dX8_ramBy_5 rfl (?_ : SdS X 14 [(0, 18), (1, 0), (2, 0), (3, 0), (4, 0), (5, 0)] [] _) (?_ : SdS X 8 [(0, 18), (1, 0), (2, 0), (3, 0), (4, 0), (5, 0)] [] _)
  · refine su_iload_n hC dX8_ramBy_14 rfl (by decide) (?_ : SdS X 15 [(0, 18), (1, 0), (2, 0), (3, 0), (4, 0), (5, 0)] [0] _)
    refine su_invs (τ := []) (τs := [0]) hC false "" WG (M_X8_isSize _) rfl rfl rfl rfl wl_4_226 wl_4_227 wl_1_1 wl_4_228 hd_X8_isSize (by rw [e3]; decide) (by decide) dX8_ramBy_15 (?_ : SdS X 18 [(0, 18), (1, 0), (2, 0), (3, 0), (4, 0), (5, 0)] [0] _)
    refine su_if_eq (tgt := 44) hC dX8_ramBy_18 rfl (?_ : SdS X 44 [(0, 18), (1, 0), (2, 0), (3, 0), (4, 0), (5, 0)] [] _) (?_ : SdS X 21 [(0, 18), (1, 0), (2, 0), (3, 0), (4, 0), (5, 0)] [] _)
    · exact SdS.weak (by decide) (S_44)
    · refine su_iload_n hC dX8_ramBy_21 rfl (by decide) (?_ : SdS X 22 [(0, 18), (1, 0), (2, 0), (3, 0), (4, 0), (5, 0)] [0] _)
      refine su_invs (τ := []) (τs := [0]) hC false "" WG (M_X8_isSize _) rfl rfl rfl rfl wl_4_226 wl_4_227 wl_1_1 wl_4_228 hd_X8_isSize (by rw [e3]; decide) (by decide) dX8_ramBy_22 (?_ : SdS X 25 [(0, 18), (1, 0), (2, 0), (3, 0), (4, 0), (5, 0)] [0] _)
      refine su_if_eq (tgt := 44) hC dX8_ramBy_25 rfl (?_ : SdS X 44 [(0, 18), (1, 0), (2, 0), (3, 0), (4, 0), (5, 0)] [] _) (?_ : SdS X 28 [(0, 18), (1, 0), (2, 0), (3, 0), (4, 0), (5, 0)] [] _)
      · exact SdS.weak (by decide) (S_44)
      · refine su_iload hC dX8_ramBy_28 (by decide) (?_ : SdS X 30 [(0, 18), (1, 0), (2, 0), (3, 0), (4, 0), (5, 0)] [0] _)
        refine su_invs (τ := []) (τs := [0]) hC false "" WG (M_X8_isSize _) rfl rfl rfl rfl wl_4_226 wl_4_227 wl_1_1 wl_4_228 hd_X8_isSize (by rw [e3]; decide) (by decide) dX8_ramBy_30 (?_ : SdS X 33 [(0, 18), (1, 0), (2, 0), (3, 0), (4, 0), (5, 0)] [0] _)
        refine su_if_eq (tgt := 44) hC dX8_ramBy_33 rfl (?_ : SdS X 44 [(0, 18), (1, 0), (2, 0), (3, 0), (4, 0), (5, 0)] [] _) (?_ : SdS X 36 [(0, 18), (1, 0), (2, 0), (3, 0), (4, 0), (5, 0)] [] _)
        · exact SdS.weak (by decide) (S_44)
        · refine su_iload hC dX8_ramBy_36 (by decide) (?_ : SdS X 38 [(0, 18), (1, 0), (2, 0), (3, 0), (4, 0), (5, 0)] [0] _)
          refine su_invs (τ := []) (τs := [0]) hC false "" WG (M_X8_isSize _) rfl rfl rfl rfl wl_4_226 wl_4_227 wl_1_1 wl_4_228 hd_X8_isSize (by rw [e3]; decide) (by decide) dX8_ramBy_38 (?_ : SdS X 41 [(0, 18), (1, 0), (2, 0), (3, 0), (4, 0), (5, 0)] [0] _)
          refine su_if_ne (tgt := 50) hC dX8_ramBy_41 rfl (?_ : SdS X 50 [(0, 18), (1, 0), (2, 0), (3, 0), (4, 0), (5, 0)] [] _) (?_ : SdS X 44 [(0, 18), (1, 0), (2, 0), (3, 0), (4, 0), (5, 0)] [] _)
          · refine su_aload_n hC 18 dX8_ramBy_50 rfl (by decide) (by decide) (?_ : SdS X 51 [(0, 18), (1, 0), (2, 0), (3, 0), (4, 0), (5, 0)] [18] _)
            refine su_getR hC (ci := 8) (j := 14) (C := RX8) (T := TX8) (N := 18) rfl rfl (by decide) in_X8 wl_2_122 rfl dX8_ramBy_51 (?_ : SdS X 54 [(0, 18), (1, 0), (2, 0), (3, 0), (4, 0), (5, 0)] [16] _)
            refine su_iload_n hC dX8_ramBy_54 rfl (by decide) (?_ : SdS X 55 [(0, 18), (1, 0), (2, 0), (3, 0), (4, 0), (5, 0)] [0, 16] _)
            refine su_iload_n hC dX8_ramBy_55 rfl (by decide) (?_ : SdS X 56 [(0, 18), (1, 0), (2, 0), (3, 0), (4, 0), (5, 0)] [0, 0, 16] _)
            refine su_iload hC dX8_ramBy_56 (by decide) (?_ : SdS X 58 [(0, 18), (1, 0), (2, 0), (3, 0), (4, 0), (5, 0)] [0, 0, 0, 16] _)
            refine su_inv0v (τ := []) (τr := [0, 0, 0]) (ci := 6) (q := (RX6, TX6, 7)) hC WG (M_X6_measure _) rfl rfl rfl rfl  rfl rfl wl_5_5 wl_3_100 wl_3_101 wl_1_3 wl_3_102 hd_X6_measure (by rw [e3]; decide) (by decide) dX8_ramBy_58 (?_ : SdS X 61 [(0, 18), (1, 0), (2, 0), (3, 0), (4, 0), (5, 0)] [] _)
            refine su_aload_n hC 18 dX8_ramBy_61 rfl (by decide) (by decide) (?_ : SdS X 62 [(0, 18), (1, 0), (2, 0), (3, 0), (4, 0), (5, 0)] [18] _)
            refine su_getR hC (ci := 8) (j := 2) (C := RX8) (T := TX8) (N := 18) rfl rfl (by decide) in_X8 wl_2_110 rfl dX8_ramBy_62 (?_ : SdS X 65 [(0, 18), (1, 0), (2, 0), (3, 0), (4, 0), (5, 0)] [11] _)
            refine su_getR hC (ci := 1) (j := 6) (C := RX1) (T := TX1) (N := 12) rfl rfl (by decide) in_X1 wl_1_104 rfl dX8_ramBy_65 (?_ : SdS X 68 [(0, 18), (1, 0), (2, 0), (3, 0), (4, 0), (5, 0)] [200] _)
            refine su_iload_n hC dX8_ramBy_68 rfl (by decide) (?_ : SdS X 69 [(0, 18), (1, 0), (2, 0), (3, 0), (4, 0), (5, 0)] [0, 200] _)
            refine su_aaload (e := 100) hC (List.mem_of_getElem? (i := 7) rfl) rfl rfl rfl dX8_ramBy_69 (?_ : SdS X 70 [(0, 18), (1, 0), (2, 0), (3, 0), (4, 0), (5, 0)] [100] _)
            refine su_astore (Γ' := [(0, 18), (1, 0), (2, 0), (3, 0), (4, 0), (5, 0), (6, 100)]) hC dX8_ramBy_70 (by decide) (by rw [e2]; decide) (by decide) (?_ : SdS X 72 [(0, 18), (1, 0), (2, 0), (3, 0), (4, 0), (5, 0), (6, 100)] [] _)
            refine su_aload hC 100 dX8_ramBy_72 (by decide) (by decide) (?_ : SdS X 74 [(0, 18), (1, 0), (2, 0), (3, 0), (4, 0), (5, 0), (6, 100)] [100] _)
            refine su_iconst hC dX8_ramBy_74 ⟨by decide, by decide⟩ (?_ : SdS X 75 [(0, 18), (1, 0), (2, 0), (3, 0), (4, 0), (5, 0), (6, 100)] [0, 100] _)
            refine su_iaload hC dX8_ramBy_75 (?_ : SdS X 76 [(0, 18), (1, 0), (2, 0), (3, 0), (4, 0), (5, 0), (6, 100)] [0] _)
            refine su_istore (Γ' := [(0, 18), (1, 0), (2, 0), (3, 0), (4, 0), (5, 0), (6, 100), (7, 0)]) hC dX8_ramBy_76 (by rw [e2]; decide) (by decide) (?_ : SdS X 78 [(0, 18), (1, 0), (2, 0), (3, 0), (4, 0), (5, 0), (6, 100), (7, 0)] [] _)
            refine su_aload hC 100 dX8_ramBy_78 (by decide) (by decide) (?_ : SdS X 80 [(0, 18), (1, 0), (2, 0), (3, 0), (4, 0), (5, 0), (6, 100), (7, 0)] [100] _)
            refine su_iconst hC dX8_ramBy_80 ⟨by decide, by decide⟩ (?_ : SdS X 81 [(0, 18), (1, 0), (2, 0), (3, 0), (4, 0), (5, 0), (6, 100), (7, 0)] [0, 100] _)
            refine su_iload hC dX8_ramBy_81 (by decide) (?_ : SdS X 83 [(0, 18), (1, 0), (2, 0), (3, 0), (4, 0), (5, 0), (6, 100), (7, 0)] [0, 0, 100] _)
            refine su_iload hC dX8_ramBy_83 (by decide) (?_ : SdS X 85 [(0, 18), (1, 0), (2, 0), (3, 0), (4, 0), (5, 0), (6, 100), (7, 0)] [0, 0, 0, 100] _)
            refine su_imax hC wl_4_236 wl_3_143 wl_1_16 wl_3_144 (by rw [e3]; decide) (by decide) dX8_ramBy_85 (?_ : SdS X 88 [(0, 18), (1, 0), (2, 0), (3, 0), (4, 0), (5, 0), (6, 100), (7, 0)] [0, 0, 100] _)
            refine su_iastore hC dX8_ramBy_88 (?_ : SdS X 89 [(0, 18), (1, 0), (2, 0), (3, 0), (4, 0), (5, 0), (6, 100), (7, 0)] [] _)
            refine su_aload_n hC 18 dX8_ramBy_89 rfl (by decide) (by decide) (?_ : SdS X 90 [(0, 18), (1, 0), (2, 0), (3, 0), (4, 0), (5, 0), (6, 100), (7, 0)] [18] _)
            refine su_getR hC (ci := 8) (j := 2) (C := RX8) (T := TX8) (N := 18) rfl rfl (by decide) in_X8 wl_2_110 rfl dX8_ramBy_90 (?_ : SdS X 93 [(0, 18), (1, 0), (2, 0), (3, 0), (4, 0), (5, 0), (6, 100), (7, 0)] [11] _)
            refine su_aload_n hC 18 dX8_ramBy_93 rfl (by decide) (by decide) (?_ : SdS X 94 [(0, 18), (1, 0), (2, 0), (3, 0), (4, 0), (5, 0), (6, 100), (7, 0)] [18, 11] _)
            refine su_getR hC (ci := 8) (j := 14) (C := RX8) (T := TX8) (N := 18) rfl rfl (by decide) in_X8 wl_2_122 rfl dX8_ramBy_94 (?_ : SdS X 97 [(0, 18), (1, 0), (2, 0), (3, 0), (4, 0), (5, 0), (6, 100), (7, 0)] [16, 11] _)
            refine su_iconst hC dX8_ramBy_97 ⟨by decide, by decide⟩ (?_ : SdS X 98 [(0, 18), (1, 0), (2, 0), (3, 0), (4, 0), (5, 0), (6, 100), (7, 0)] [0, 16, 11] _)
            refine su_inv0 (τ := []) (τr := [16, 0]) (ci := 1) (q := (RX1, TX1, 12)) hC WG (M_X1_depthOf _) rfl rfl rfl rfl  rfl rfl wl_4_41 wl_4_42 wl_4_43 wl_1_2 wl_4_44 hd_X1_depthOf (by rw [e3]; decide) (by decide) dX8_ramBy_98 (?_ : SdS X 101 [(0, 18), (1, 0), (2, 0), (3, 0), (4, 0), (5, 0), (6, 100), (7, 0)] [0] _)
            refine su_istore (Γ' := [(0, 18), (1, 0), (2, 0), (3, 0), (4, 0), (5, 0), (6, 100), (7, 0), (8, 0)]) hC dX8_ramBy_101 (by rw [e2]; decide) (by decide) (?_ : SdS X 103 [(0, 18), (1, 0), (2, 0), (3, 0), (4, 0), (5, 0), (6, 100), (7, 0), (8, 0)] [] _)
            refine su_aload hC 100 dX8_ramBy_103 (by decide) (by decide) (?_ : SdS X 105 [(0, 18), (1, 0), (2, 0), (3, 0), (4, 0), (5, 0), (6, 100), (7, 0), (8, 0)] [100] _)
            refine su_iconst hC dX8_ramBy_105 ⟨by decide, by decide⟩ (?_ : SdS X 106 [(0, 18), (1, 0), (2, 0), (3, 0), (4, 0), (5, 0), (6, 100), (7, 0), (8, 0)] [0, 100] _)
            refine su_iload hC dX8_ramBy_106 (by decide) (?_ : SdS X 108 [(0, 18), (1, 0), (2, 0), (3, 0), (4, 0), (5, 0), (6, 100), (7, 0), (8, 0)] [0, 0, 100] _)
            refine su_iastore hC dX8_ramBy_108 (?_ : SdS X 109 [(0, 18), (1, 0), (2, 0), (3, 0), (4, 0), (5, 0), (6, 100), (7, 0), (8, 0)] [] _)
            refine su_aload_n hC 18 dX8_ramBy_109 rfl (by decide) (by decide) (?_ : SdS X 110 [(0, 18), (1, 0), (2, 0), (3, 0), (4, 0), (5, 0), (6, 100), (7, 0), (8, 0)] [18] _)
            refine su_iload hC dX8_ramBy_110 (by decide) (?_ : SdS X 112 [(0, 18), (1, 0), (2, 0), (3, 0), (4, 0), (5, 0), (6, 100), (7, 0), (8, 0)] [0, 18] _)
            refine su_inv0 (τ := []) (τr := [0]) (ci := 8) (q := (RX8, TX8, 18)) hC WG (M_X8_grant _) rfl rfl rfl rfl  rfl rfl wl_3_225 wl_3_227 wp_34 wl_1_1 wl_3_228 hd_X8_grant (by rw [e3]; decide) (by decide) dX8_ramBy_112 (?_ : SdS X 115 [(0, 18), (1, 0), (2, 0), (3, 0), (4, 0), (5, 0), (6, 100), (7, 0), (8, 0)] [0] _)
            exact su_ireturn hC hT dX8_ramBy_115
          · exact SdS.weak (by decide) (S_44)
  · refine su_aload_n hC 18 dX8_ramBy_8 rfl (by decide) (by decide) (?_ : SdS X 9 [(0, 18), (1, 0), (2, 0), (3, 0), (4, 0), (5, 0)] [18] _)
    refine su_iconst hC dX8_ramBy_9 ⟨by decide, by decide⟩ (?_ : SdS X 10 [(0, 18), (1, 0), (2, 0), (3, 0), (4, 0), (5, 0)] [0, 18] _)
    refine su_inv0 (τ := []) (τr := [0]) (ci := 8) (q := (RX8, TX8, 18)) hC WG (M_X8_refuse _) rfl rfl rfl rfl  rfl rfl wl_2_175 wl_2_177 wp_1 wl_1_1 wl_2_178 hd_X8_refuse (by rw [e3]; decide) (by decide) dX8_ramBy_10 (?_ : SdS X 13 [(0, 18), (1, 0), (2, 0), (3, 0), (4, 0), (5, 0)] [0] _)
    exact su_ireturn hC hT dX8_ramBy_13
theorem hd_X8_saves : yX8_saves.cls ≠ "java/lang/invoke/MethodHandle" ∧ yX8_saves.cls ≠ "java/lang/invoke/VarHandle" ∧ (parseMethodDescriptor yX8_saves.desc).map (fun d => d.parameters.length) = some 3 := by decide +kernel
set_option maxRecDepth 100000 in
set_option maxHeartbeats 4000000 in
theorem M_X8_saves (l : Launch) : MtS l yX8_saves (Cond.code yX8_saves cX8_saves 4 (some .int) :: WALL) { frames := 6, cells := 0, slots := 0, locals := 152 } [18, 0, 0, 0] (some 0) T_X8_saves := by
  refine MtS.mk (B := E_X8_saves) (by decide +kernel) (by decide) (fun _ _ _ hh => hh) ?_
  intro X Q e1 e2 e3 hC hN hT
  subst e1
  have hC : CF X cX8_saves RX8 WALL := hC
  have S_31 : SdS X 31 [(0, 18), (1, 0), (2, 0), (3, 0)] [] (B_X8_saves_31 Q) := by
    unfold B_X8_saves_31
    refine su_aload_n hC 18 dX8_saves_31 rfl (by decide) (by decide) (?_ : SdS X 32 [(0, 18), (1, 0), (2, 0), (3, 0)] [18] _)
    refine su_iconst hC dX8_saves_32 ⟨by decide, by decide⟩ (?_ : SdS X 33 [(0, 18), (1, 0), (2, 0), (3, 0)] [0, 18] _)
    refine su_putF hC (ci := 8) (j := 17) (C := RX8) (T := TX8) (N := 18) tyX8 tyX8_ok nmX8 rfl rfl (by decide) in_X8 rfl rfl wl_2_125 rfl dX8_saves_33 (?_ : SdS X 36 [(0, 18), (1, 0), (2, 0), (3, 0)] [] _)
    refine su_sipush hC dX8_saves_36 (by decide) (?_ : SdS X 39 [(0, 18), (1, 0), (2, 0), (3, 0)] [0] _)
    exact su_ireturn hC hT dX8_saves_39
  refine (?_ : SdS X 0 [(0, 18), (1, 0), (2, 0), (3, 0)] [] (E_X8_saves Q))
  unfold E_X8_saves
  refine su_aload_n hC 18 dX8_saves_0 rfl (by decide) (by decide) (?_ : SdS X 1 [(0, 18), (1, 0), (2, 0), (3, 0)] [18] _)
  refine su_iload_n hC dX8_saves_1 rfl (by decide) (?_ : SdS X 2 [(0, 18), (1, 0), (2, 0), (3, 0)] [0, 18] _)
  refine su_inv0 (τ := []) (τr := [0]) (ci := 8) (q := (RX8, TX8, 18)) hC WG (M_X8_isGate _) rfl rfl rfl rfl  rfl rfl wl_4_2 wl_4_4 wp_35 wl_1_1 wl_4_5 hd_X8_isGate (by rw [e3]; decide) (by decide) dX8_saves_2 (?_ : SdS X 5 [(0, 18), (1, 0), (2, 0), (3, 0)] [0] _)
  refine su_if_ne (tgt := 17) hC dX8_saves_5 rfl (?_ : SdS X 17 [(0, 18), (1, 0), (2, 0), (3, 0)] [] _) (?_ : SdS X 8 [(0, 18), (1, 0), (2, 0), (3, 0)] [] _)
  · refine su_iload_n hC dX8_saves_17 rfl (by decide) (?_ : SdS X 18 [(0, 18), (1, 0), (2, 0), (3, 0)] [0] _)
    refine su_invs (τ := []) (τs := [0]) hC false "" WG (M_X8_isSize _) rfl rfl rfl rfl wl_4_226 wl_4_227 wl_1_1 wl_4_228 hd_X8_isSize (by rw [e3]; decide) (by decide) dX8_saves_18 (?_ : SdS X 21 [(0, 18), (1, 0), (2, 0), (3, 0)] [0] _)
    refine su_if_eq (tgt := 31) hC dX8_saves_21 rfl (?_ : SdS X 31 [(0, 18), (1, 0), (2, 0), (3, 0)] [] _) (?_ : SdS X 24 [(0, 18), (1, 0), (2, 0), (3, 0)] [] _)
    · exact SdS.weak (by decide) (S_31)
    · refine su_iload_n hC dX8_saves_24 rfl (by decide) (?_ : SdS X 25 [(0, 18), (1, 0), (2, 0), (3, 0)] [0] _)
      refine su_invs (τ := []) (τs := [0]) hC false "" WG (M_X8_isSize _) rfl rfl rfl rfl wl_4_226 wl_4_227 wl_1_1 wl_4_228 hd_X8_isSize (by rw [e3]; decide) (by decide) dX8_saves_25 (?_ : SdS X 28 [(0, 18), (1, 0), (2, 0), (3, 0)] [0] _)
      refine su_if_ne (tgt := 40) hC dX8_saves_28 rfl (?_ : SdS X 40 [(0, 18), (1, 0), (2, 0), (3, 0)] [] _) (?_ : SdS X 31 [(0, 18), (1, 0), (2, 0), (3, 0)] [] _)
      · refine su_aload_n hC 18 dX8_saves_40 rfl (by decide) (by decide) (?_ : SdS X 41 [(0, 18), (1, 0), (2, 0), (3, 0)] [18] _)
        refine su_aload_n hC 18 dX8_saves_41 rfl (by decide) (by decide) (?_ : SdS X 42 [(0, 18), (1, 0), (2, 0), (3, 0)] [18, 18] _)
        refine su_iload_n hC dX8_saves_42 rfl (by decide) (?_ : SdS X 43 [(0, 18), (1, 0), (2, 0), (3, 0)] [0, 18, 18] _)
        refine su_iload_n hC dX8_saves_43 rfl (by decide) (?_ : SdS X 44 [(0, 18), (1, 0), (2, 0), (3, 0)] [0, 0, 18, 18] _)
        refine su_iload_n hC dX8_saves_44 rfl (by decide) (?_ : SdS X 45 [(0, 18), (1, 0), (2, 0), (3, 0)] [0, 0, 0, 18, 18] _)
        refine su_inv0 (τ := [18]) (τr := [0, 0, 0]) (ci := 8) (q := (RX8, TX8, 18)) hC WG (M_X8_savingOf _) rfl rfl rfl rfl  rfl rfl wl_4_229 wl_4_231 wp_58 wl_1_1 wl_4_232 hd_X8_savingOf (by rw [e3]; decide) (by decide) dX8_saves_45 (?_ : SdS X 48 [(0, 18), (1, 0), (2, 0), (3, 0)] [0, 18] _)
        refine su_inv0 (τ := []) (τr := [0]) (ci := 8) (q := (RX8, TX8, 18)) hC WG (M_X8_grant _) rfl rfl rfl rfl  rfl rfl wl_3_225 wl_3_227 wp_34 wl_1_1 wl_3_228 hd_X8_grant (by rw [e3]; decide) (by decide) dX8_saves_48 (?_ : SdS X 51 [(0, 18), (1, 0), (2, 0), (3, 0)] [0] _)
        exact su_ireturn hC hT dX8_saves_51
      · exact SdS.weak (by decide) (S_31)
  · refine su_aload_n hC 18 dX8_saves_8 rfl (by decide) (by decide) (?_ : SdS X 9 [(0, 18), (1, 0), (2, 0), (3, 0)] [18] _)
    refine su_iconst hC dX8_saves_9 ⟨by decide, by decide⟩ (?_ : SdS X 10 [(0, 18), (1, 0), (2, 0), (3, 0)] [0, 18] _)
    refine su_putF hC (ci := 8) (j := 17) (C := RX8) (T := TX8) (N := 18) tyX8 tyX8_ok nmX8 rfl rfl (by decide) in_X8 rfl rfl wl_2_125 rfl dX8_saves_10 (?_ : SdS X 13 [(0, 18), (1, 0), (2, 0), (3, 0)] [] _)
    refine su_sipush hC dX8_saves_13 (by decide) (?_ : SdS X 16 [(0, 18), (1, 0), (2, 0), (3, 0)] [0] _)
    exact su_ireturn hC hT dX8_saves_16
theorem hd_X8_size : yX8_size.cls ≠ "java/lang/invoke/MethodHandle" ∧ yX8_size.cls ≠ "java/lang/invoke/VarHandle" ∧ (parseMethodDescriptor yX8_size.desc).map (fun d => d.parameters.length) = some 1 := by decide +kernel
set_option maxRecDepth 100000 in
set_option maxHeartbeats 4000000 in
theorem M_X8_size (l : Launch) : MtS l yX8_size (Cond.code yX8_size cX8_size 2 (some .int) :: WALL) { frames := 0, cells := 0, slots := 0, locals := 0 } [18, 0] (some 0) T_X8_size := by
  refine MtS.mk (B := E_X8_size) (by decide +kernel) (by decide) (fun _ _ _ hh => hh) ?_
  intro X Q e1 e2 e3 hC hN hT
  subst e1
  have hC : CF X cX8_size RX8 WALL := hC
  refine (?_ : SdS X 0 [(0, 18), (1, 0)] [] (E_X8_size Q))
  unfold E_X8_size
  refine su_iload_n hC dX8_size_0 rfl (by decide) (?_ : SdS X 1 [(0, 18), (1, 0)] [0] _)
  refine su_tsw (td := 118) hC dX8_size_1 rfl rfl ?_ (?_ : SdS X 118 [(0, 18), (1, 0)] [] _)
  · intro j kj hj
    match j, hj with
    | 0, hj =>
      cases hj
      refine ⟨_, 52, rfl, rfl, (?_ : SdS X 52 [(0, 18), (1, 0)] [] _)⟩
      refine su_aload_n hC 18 dX8_size_52 rfl (by decide) (by decide) (?_ : SdS X 53 [(0, 18), (1, 0)] [18] _)
      refine su_getR hC (ci := 8) (j := 2) (C := RX8) (T := TX8) (N := 18) rfl rfl (by decide) in_X8 wl_2_110 rfl dX8_size_53 (?_ : SdS X 56 [(0, 18), (1, 0)] [11] _)
      refine su_getF hC (ci := 1) (j := 0) (C := RX1) (T := TX1) (N := 12) rfl rfl (by decide) in_X1 wl_1_79 rfl dX8_size_56 (?_ : SdS X 59 [(0, 18), (1, 0)] [0] _)
      exact su_ireturn hC hT dX8_size_59
    | 1, hj =>
      cases hj
      refine ⟨_, 60, rfl, rfl, (?_ : SdS X 60 [(0, 18), (1, 0)] [] _)⟩
      refine su_aload_n hC 18 dX8_size_60 rfl (by decide) (by decide) (?_ : SdS X 61 [(0, 18), (1, 0)] [18] _)
      refine su_getR hC (ci := 8) (j := 2) (C := RX8) (T := TX8) (N := 18) rfl rfl (by decide) in_X8 wl_2_110 rfl dX8_size_61 (?_ : SdS X 64 [(0, 18), (1, 0)] [11] _)
      refine su_getF hC (ci := 1) (j := 1) (C := RX1) (T := TX1) (N := 12) rfl rfl (by decide) in_X1 wl_1_87 rfl dX8_size_64 (?_ : SdS X 67 [(0, 18), (1, 0)] [0] _)
      exact su_ireturn hC hT dX8_size_67
    | 2, hj =>
      cases hj
      refine ⟨_, 68, rfl, rfl, (?_ : SdS X 68 [(0, 18), (1, 0)] [] _)⟩
      refine su_aload_n hC 18 dX8_size_68 rfl (by decide) (by decide) (?_ : SdS X 69 [(0, 18), (1, 0)] [18] _)
      refine su_getR hC (ci := 8) (j := 2) (C := RX8) (T := TX8) (N := 18) rfl rfl (by decide) in_X8 wl_2_110 rfl dX8_size_69 (?_ : SdS X 72 [(0, 18), (1, 0)] [11] _)
      refine su_getF hC (ci := 1) (j := 2) (C := RX1) (T := TX1) (N := 12) rfl rfl (by decide) in_X1 wl_1_91 rfl dX8_size_72 (?_ : SdS X 75 [(0, 18), (1, 0)] [0] _)
      exact su_ireturn hC hT dX8_size_75
    | 3, hj =>
      cases hj
      refine ⟨_, 76, rfl, rfl, (?_ : SdS X 76 [(0, 18), (1, 0)] [] _)⟩
      refine su_aload_n hC 18 dX8_size_76 rfl (by decide) (by decide) (?_ : SdS X 77 [(0, 18), (1, 0)] [18] _)
      refine su_getR hC (ci := 8) (j := 2) (C := RX8) (T := TX8) (N := 18) rfl rfl (by decide) in_X8 wl_2_110 rfl dX8_size_77 (?_ : SdS X 80 [(0, 18), (1, 0)] [11] _)
      refine su_getF hC (ci := 1) (j := 3) (C := RX1) (T := TX1) (N := 12) rfl rfl (by decide) in_X1 wl_1_94 rfl dX8_size_80 (?_ : SdS X 83 [(0, 18), (1, 0)] [0] _)
      exact su_ireturn hC hT dX8_size_83
    | 4, hj =>
      cases hj
      refine ⟨_, 84, rfl, rfl, (?_ : SdS X 84 [(0, 18), (1, 0)] [] _)⟩
      refine su_aload_n hC 18 dX8_size_84 rfl (by decide) (by decide) (?_ : SdS X 85 [(0, 18), (1, 0)] [18] _)
      refine su_getR hC (ci := 8) (j := 2) (C := RX8) (T := TX8) (N := 18) rfl rfl (by decide) in_X8 wl_2_110 rfl dX8_size_85 (?_ : SdS X 88 [(0, 18), (1, 0)] [11] _)
      refine su_getF hC (ci := 1) (j := 4) (C := RX1) (T := TX1) (N := 12) rfl rfl (by decide) in_X1 wl_1_98 rfl dX8_size_88 (?_ : SdS X 91 [(0, 18), (1, 0)] [0] _)
      exact su_ireturn hC hT dX8_size_91
    | 5, hj =>
      cases hj
      refine ⟨_, 92, rfl, rfl, (?_ : SdS X 92 [(0, 18), (1, 0)] [] _)⟩
      refine su_aload_n hC 18 dX8_size_92 rfl (by decide) (by decide) (?_ : SdS X 93 [(0, 18), (1, 0)] [18] _)
      refine su_getR hC (ci := 8) (j := 9) (C := RX8) (T := TX8) (N := 18) rfl rfl (by decide) in_X8 wl_2_117 rfl dX8_size_93 (?_ : SdS X 96 [(0, 18), (1, 0)] [12] _)
      refine su_getF hC (ci := 2) (j := 0) (C := RX2) (T := TX2) (N := 10) rfl rfl (by decide) in_X2 wl_2_37 rfl dX8_size_96 (?_ : SdS X 99 [(0, 18), (1, 0)] [0] _)
      exact su_ireturn hC hT dX8_size_99
    | 6, hj =>
      cases hj
      refine ⟨_, 100, rfl, rfl, (?_ : SdS X 100 [(0, 18), (1, 0)] [] _)⟩
      refine su_aload_n hC 18 dX8_size_100 rfl (by decide) (by decide) (?_ : SdS X 101 [(0, 18), (1, 0)] [18] _)
      refine su_getF hC (ci := 8) (j := 11) (C := RX8) (T := TX8) (N := 18) rfl rfl (by decide) in_X8 wl_2_119 rfl dX8_size_101 (?_ : SdS X 104 [(0, 18), (1, 0)] [0] _)
      exact su_ireturn hC hT dX8_size_104
    | 7, hj =>
      cases hj
      refine ⟨_, 105, rfl, rfl, (?_ : SdS X 105 [(0, 18), (1, 0)] [] _)⟩
      refine su_aload_n hC 18 dX8_size_105 rfl (by decide) (by decide) (?_ : SdS X 106 [(0, 18), (1, 0)] [18] _)
      refine su_getR hC (ci := 8) (j := 12) (C := RX8) (T := TX8) (N := 18) rfl rfl (by decide) in_X8 wl_2_120 rfl dX8_size_106 (?_ : SdS X 109 [(0, 18), (1, 0)] [10] _)
      refine su_getF hC (ci := 0) (j := 0) (C := RX0) (T := TX0) (N := 2) rfl rfl (by decide) in_X0 wl_2_83 rfl dX8_size_109 (?_ : SdS X 112 [(0, 18), (1, 0)] [0] _)
      exact su_ireturn hC hT dX8_size_112
    | 8, hj =>
      cases hj
      refine ⟨_, 113, rfl, rfl, (?_ : SdS X 113 [(0, 18), (1, 0)] [] _)⟩
      refine su_aload_n hC 18 dX8_size_113 rfl (by decide) (by decide) (?_ : SdS X 114 [(0, 18), (1, 0)] [18] _)
      refine su_getF hC (ci := 8) (j := 1) (C := RX8) (T := TX8) (N := 18) rfl rfl (by decide) in_X8 wl_2_109 rfl dX8_size_114 (?_ : SdS X 117 [(0, 18), (1, 0)] [0] _)
      exact su_ireturn hC hT dX8_size_117
    | j + 9, hj => exact absurd hj (by simp)
  · refine su_iconst hC dX8_size_118 ⟨by decide, by decide⟩ (?_ : SdS X 119 [(0, 18), (1, 0)] [0] _)
    exact su_ireturn hC hT dX8_size_119
theorem hd_X8_stand : yX8_stand.cls ≠ "java/lang/invoke/MethodHandle" ∧ yX8_stand.cls ≠ "java/lang/invoke/VarHandle" ∧ (parseMethodDescriptor yX8_stand.desc).map (fun d => d.parameters.length) = some 0 := by decide +kernel
set_option maxRecDepth 100000 in
set_option maxHeartbeats 4000000 in
theorem M_X8_stand (l : Launch) : MtS l yX8_stand (Cond.code yX8_stand cX8_stand 3 (some .int) :: WALL) { frames := 1, cells := 0, slots := 0, locals := 24 } [18] (some 0) T_X8_stand := by
  refine MtS.mk (B := E_X8_stand) (by decide +kernel) (by decide) (fun _ _ _ hh => hh) ?_
  intro X Q e1 e2 e3 hC hN hT
  subst e1
  have hC : CF X cX8_stand RX8 WALL := hC
  have S_49 : ∀ (k17 : xK), SdS X 17 [(0, 18), (1, 0), (2, 0)] [] k17 → SdS X 49 [(0, 18), (1, 0), (2, 0)] [] (B_X8_stand_49 Q k17) := by
    intro k17 h17
    unfold B_X8_stand_49
    refine su_iinc (Γ' := [(0, 18), (1, 0), (2, 0)]) hC dX8_stand_49 (by decide) (by rw [e2]; decide) (by decide) (?_ : SdS X 52 [(0, 18), (1, 0), (2, 0)] [] _)
    refine su_goto (tgt := 17) hC dX8_stand_52 rfl (?_ : SdS X 17 [(0, 18), (1, 0), (2, 0)] [] _)
    exact SdS.weak (by decide) h17
  have S_17 : SdS X 17 [(0, 18), (1, 0), (2, 0)] [] (L_X8_stand_17 Q) := by
    unfold L_X8_stand_17
    refine SdS.loop (fun k17 h17 => ?_)
    refine su_iload_n hC dX8_stand_17 rfl (by decide) (?_ : SdS X 18 [(0, 18), (1, 0), (2, 0)] [0] _)
    refine su_aload_n hC 18 dX8_stand_18 rfl (by decide) (by decide) (?_ : SdS X 19 [(0, 18), (1, 0), (2, 0)] [18, 0] _)
    refine su_getR hC (ci := 8) (j := 2) (C := RX8) (T := TX8) (N := 18) rfl rfl (by decide) in_X8 wl_2_110 rfl dX8_stand_19 (?_ : SdS X 22 [(0, 18), (1, 0), (2, 0)] [11, 0] _)
    refine su_getF hC (ci := 1) (j := 0) (C := RX1) (T := TX1) (N := 12) rfl rfl (by decide) in_X1 wl_1_79 rfl dX8_stand_22 (?_ : SdS X 25 [(0, 18), (1, 0), (2, 0)] [0, 0] _)
    refine su_icmp_ge (tgt := 55) hC dX8_stand_25 rfl (?_ : SdS X 55 [(0, 18), (1, 0), (2, 0)] [] _) (?_ : SdS X 28 [(0, 18), (1, 0), (2, 0)] [] _)
    · refine su_aload_n hC 18 dX8_stand_55 rfl (by decide) (by decide) (?_ : SdS X 56 [(0, 18), (1, 0), (2, 0)] [18] _)
      refine su_iload_n hC dX8_stand_56 rfl (by decide) (?_ : SdS X 57 [(0, 18), (1, 0), (2, 0)] [0, 18] _)
      refine su_inv0 (τ := []) (τr := [0]) (ci := 8) (q := (RX8, TX8, 18)) hC WG (M_X8_grant _) rfl rfl rfl rfl  rfl rfl wl_3_225 wl_3_227 wp_34 wl_1_1 wl_3_228 hd_X8_grant (by rw [e3]; decide) (by decide) dX8_stand_57 (?_ : SdS X 60 [(0, 18), (1, 0), (2, 0)] [0] _)
      exact su_ireturn hC hT dX8_stand_60
    · refine su_aload_n hC 18 dX8_stand_28 rfl (by decide) (by decide) (?_ : SdS X 29 [(0, 18), (1, 0), (2, 0)] [18] _)
      refine su_getR hC (ci := 8) (j := 2) (C := RX8) (T := TX8) (N := 18) rfl rfl (by decide) in_X8 wl_2_110 rfl dX8_stand_29 (?_ : SdS X 32 [(0, 18), (1, 0), (2, 0)] [11] _)
      refine su_iload_n hC dX8_stand_32 rfl (by decide) (?_ : SdS X 33 [(0, 18), (1, 0), (2, 0)] [0, 11] _)
      refine su_inv0 (τ := []) (τr := [0]) (ci := 1) (q := (RX1, TX1, 12)) hC WG (M_X1_daysOf _) rfl rfl rfl rfl  rfl rfl wl_5_14 wl_5_15 wl_5_16 wl_1_2 wl_5_17 hd_X1_daysOf (by rw [e3]; decide) (by decide) dX8_stand_33 (?_ : SdS X 36 [(0, 18), (1, 0), (2, 0)] [0] _)
      refine su_aload_n hC 18 dX8_stand_36 rfl (by decide) (by decide) (?_ : SdS X 37 [(0, 18), (1, 0), (2, 0)] [18, 0] _)
      refine su_getR hC (ci := 8) (j := 2) (C := RX8) (T := TX8) (N := 18) rfl rfl (by decide) in_X8 wl_2_110 rfl dX8_stand_37 (?_ : SdS X 40 [(0, 18), (1, 0), (2, 0)] [11, 0] _)
      refine su_iload_n hC dX8_stand_40 rfl (by decide) (?_ : SdS X 41 [(0, 18), (1, 0), (2, 0)] [0, 11, 0] _)
      refine su_inv0 (τ := [0]) (τr := [0]) (ci := 1) (q := (RX1, TX1, 12)) hC WG (M_X1_daysOf _) rfl rfl rfl rfl  rfl rfl wl_5_14 wl_5_15 wl_5_16 wl_1_2 wl_5_17 hd_X1_daysOf (by rw [e3]; decide) (by decide) dX8_stand_41 (?_ : SdS X 44 [(0, 18), (1, 0), (2, 0)] [0, 0] _)
      refine su_icmp_lt (tgt := 49) hC dX8_stand_44 rfl (?_ : SdS X 49 [(0, 18), (1, 0), (2, 0)] [] _) (?_ : SdS X 47 [(0, 18), (1, 0), (2, 0)] [] _)
      · exact SdS.weak (by decide) (S_49 k17 h17)
      · refine su_iload_n hC dX8_stand_47 rfl (by decide) (?_ : SdS X 48 [(0, 18), (1, 0), (2, 0)] [0] _)
        refine su_istore_n (Γ' := [(0, 18), (1, 0), (2, 0)]) hC dX8_stand_48 rfl (by rw [e2]; decide) (by decide) (?_ : SdS X 49 [(0, 18), (1, 0), (2, 0)] [] _)
        exact SdS.weak (by decide) (S_49 k17 h17)
  refine (?_ : SdS X 0 [(0, 18)] [] (E_X8_stand Q))
  unfold E_X8_stand
  refine su_aload_n hC 18 dX8_stand_0 rfl (by decide) (by decide) (?_ : SdS X 1 [(0, 18)] [18] _)
  refine su_inv0 (τ := []) (τr := []) (ci := 8) (q := (RX8, TX8, 18)) hC WG (M_X8_isCity _) rfl rfl rfl rfl  rfl rfl wl_4_99 wl_4_101 wp_43 wl_1_1 wl_4_102 hd_X8_isCity (by rw [e3]; decide) (by decide) dX8_stand_1 (?_ : SdS X 4 [(0, 18)] [0] _)
  refine su_if_ne (tgt := 13) hC dX8_stand_4 rfl (?_ : SdS X 13 [(0, 18)] [] _) (?_ : SdS X 7 [(0, 18)] [] _)
  · refine su_iconst hC dX8_stand_13 ⟨by decide, by decide⟩ (?_ : SdS X 14 [(0, 18)] [0] _)
    refine su_istore_n (Γ' := [(0, 18), (1, 0)]) hC dX8_stand_14 rfl (by rw [e2]; decide) (by decide) (?_ : SdS X 15 [(0, 18), (1, 0)] [] _)
    refine su_iconst hC dX8_stand_15 ⟨by decide, by decide⟩ (?_ : SdS X 16 [(0, 18), (1, 0)] [0] _)
    refine su_istore_n (Γ' := [(0, 18), (1, 0), (2, 0)]) hC dX8_stand_16 rfl (by rw [e2]; decide) (by decide) (?_ : SdS X 17 [(0, 18), (1, 0), (2, 0)] [] _)
    exact SdS.weak (by decide) (S_17)
  · refine su_aload_n hC 18 dX8_stand_7 rfl (by decide) (by decide) (?_ : SdS X 8 [(0, 18)] [18] _)
    refine su_iconst hC dX8_stand_8 ⟨by decide, by decide⟩ (?_ : SdS X 9 [(0, 18)] [0, 18] _)
    refine su_inv0 (τ := []) (τr := [0]) (ci := 8) (q := (RX8, TX8, 18)) hC WG (M_X8_refuse _) rfl rfl rfl rfl  rfl rfl wl_2_175 wl_2_177 wp_1 wl_1_1 wl_2_178 hd_X8_refuse (by rw [e3]; decide) (by decide) dX8_stand_9 (?_ : SdS X 12 [(0, 18)] [0] _)
    exact su_ireturn hC hT dX8_stand_12
theorem wl_5_26 : Cond.methodLink RX8 278 yX5_gatesOf ∈ WALL := tb5 (List.mem_of_getElem? (i := 26) rfl) rfl
theorem wl_5_27 : Cond.instanceMethod yX5_gatesOf ∈ WALL := tb5 (List.mem_of_getElem? (i := 27) rfl) rfl
theorem wl_5_28 : Cond.selects RX5 yX5_gatesOf yX5_gatesOf ∈ WALL := tb5 (List.mem_of_getElem? (i := 28) rfl) rfl
theorem wl_5_29 : Cond.code yX5_gatesOf cX5_gatesOf 7 (some .int) ∈ WALL := tb5 (List.mem_of_getElem? (i := 29) rfl) rfl
theorem hd_X8_theft : yX8_theft.cls ≠ "java/lang/invoke/MethodHandle" ∧ yX8_theft.cls ≠ "java/lang/invoke/VarHandle" ∧ (parseMethodDescriptor yX8_theft.desc).map (fun d => d.parameters.length) = some 5 := by decide +kernel
set_option maxRecDepth 100000 in
set_option maxHeartbeats 4000000 in
theorem M_X8_theft (l : Launch) : MtS l yX8_theft (Cond.code yX8_theft cX8_theft 6 (some .int) :: WALL) { frames := 4, cells := 0, slots := 0, locals := 100 } [18, 0, 0, 0, 0, 0] (some 0) T_X8_theft := by
  refine MtS.mk (B := E_X8_theft) (by decide +kernel) (by decide) (fun _ _ _ hh => hh) ?_
  intro X Q e1 e2 e3 hC hN hT
  subst e1
  have hC : CF X cX8_theft RX8 WALL := hC
  have S_17 : SdS X 17 [(0, 18), (1, 0), (2, 0), (3, 0), (4, 0), (5, 0)] [] (B_X8_theft_17 Q) := by
    unfold B_X8_theft_17
    refine su_aload_n hC 18 dX8_theft_17 rfl (by decide) (by decide) (?_ : SdS X 18 [(0, 18), (1, 0), (2, 0), (3, 0), (4, 0), (5, 0)] [18] _)
    refine su_iconst hC dX8_theft_18 ⟨by decide, by decide⟩ (?_ : SdS X 19 [(0, 18), (1, 0), (2, 0), (3, 0), (4, 0), (5, 0)] [0, 18] _)
    refine su_inv0 (τ := []) (τr := [0]) (ci := 8) (q := (RX8, TX8, 18)) hC WG (M_X8_refuse _) rfl rfl rfl rfl  rfl rfl wl_2_175 wl_2_177 wp_1 wl_1_1 wl_2_178 hd_X8_refuse (by rw [e3]; decide) (by decide) dX8_theft_19 (?_ : SdS X 22 [(0, 18), (1, 0), (2, 0), (3, 0), (4, 0), (5, 0)] [0] _)
    exact su_ireturn hC hT dX8_theft_22
  have S_35 : SdS X 35 [(0, 18), (1, 0), (2, 0), (3, 0), (4, 0), (5, 0)] [] (B_X8_theft_35 Q) := by
    unfold B_X8_theft_35
    refine su_aload_n hC 18 dX8_theft_35 rfl (by decide) (by decide) (?_ : SdS X 36 [(0, 18), (1, 0), (2, 0), (3, 0), (4, 0), (5, 0)] [18] _)
    refine su_iconst hC dX8_theft_36 ⟨by decide, by decide⟩ (?_ : SdS X 37 [(0, 18), (1, 0), (2, 0), (3, 0), (4, 0), (5, 0)] [0, 18] _)
    refine su_inv0 (τ := []) (τr := [0]) (ci := 8) (q := (RX8, TX8, 18)) hC WG (M_X8_refuse _) rfl rfl rfl rfl  rfl rfl wl_2_175 wl_2_177 wp_1 wl_1_1 wl_2_178 hd_X8_refuse (by rw [e3]; decide) (by decide) dX8_theft_37 (?_ : SdS X 40 [(0, 18), (1, 0), (2, 0), (3, 0), (4, 0), (5, 0)] [0] _)
    exact su_ireturn hC hT dX8_theft_40
  have S_63 : SdS X 63 [(0, 18), (1, 0), (2, 0), (3, 0), (4, 0), (5, 0)] [] (B_X8_theft_63 Q) := by
    unfold B_X8_theft_63
    refine su_aload_n hC 18 dX8_theft_63 rfl (by decide) (by decide) (?_ : SdS X 64 [(0, 18), (1, 0), (2, 0), (3, 0), (4, 0), (5, 0)] [18] _)
    refine su_aload_n hC 18 dX8_theft_64 rfl (by decide) (by decide) (?_ : SdS X 65 [(0, 18), (1, 0), (2, 0), (3, 0), (4, 0), (5, 0)] [18, 18] _)
    refine su_getR hC (ci := 8) (j := 13) (C := RX8) (T := TX8) (N := 18) rfl rfl (by decide) in_X8 wl_2_121 rfl dX8_theft_65 (?_ : SdS X 68 [(0, 18), (1, 0), (2, 0), (3, 0), (4, 0), (5, 0)] [15, 18] _)
    refine su_aload_n hC 18 dX8_theft_68 rfl (by decide) (by decide) (?_ : SdS X 69 [(0, 18), (1, 0), (2, 0), (3, 0), (4, 0), (5, 0)] [18, 15, 18] _)
    refine su_getR hC (ci := 8) (j := 2) (C := RX8) (T := TX8) (N := 18) rfl rfl (by decide) in_X8 wl_2_110 rfl dX8_theft_69 (?_ : SdS X 72 [(0, 18), (1, 0), (2, 0), (3, 0), (4, 0), (5, 0)] [11, 15, 18] _)
    refine su_aload_n hC 18 dX8_theft_72 rfl (by decide) (by decide) (?_ : SdS X 73 [(0, 18), (1, 0), (2, 0), (3, 0), (4, 0), (5, 0)] [18, 11, 15, 18] _)
    refine su_getR hC (ci := 8) (j := 2) (C := RX8) (T := TX8) (N := 18) rfl rfl (by decide) in_X8 wl_2_110 rfl dX8_theft_73 (?_ : SdS X 76 [(0, 18), (1, 0), (2, 0), (3, 0), (4, 0), (5, 0)] [11, 11, 15, 18] _)
    refine su_iload_n hC dX8_theft_76 rfl (by decide) (?_ : SdS X 77 [(0, 18), (1, 0), (2, 0), (3, 0), (4, 0), (5, 0)] [0, 11, 11, 15, 18] _)
    refine su_iload hC dX8_theft_77 (by decide) (?_ : SdS X 79 [(0, 18), (1, 0), (2, 0), (3, 0), (4, 0), (5, 0)] [0, 0, 11, 11, 15, 18] _)
    refine su_inv0 (τ := [11, 15, 18]) (τr := [0, 0]) (ci := 1) (q := (RX1, TX1, 12)) hC WG (M_X1_thing _) rfl rfl rfl rfl  rfl rfl wl_4_35 wl_3_132 wl_3_133 wl_1_2 wl_3_134 hd_X1_thing (by rw [e3]; decide) (by decide) dX8_theft_79 (?_ : SdS X 82 [(0, 18), (1, 0), (2, 0), (3, 0), (4, 0), (5, 0)] [16, 11, 15, 18] _)
    refine su_iload_n hC dX8_theft_82 rfl (by decide) (?_ : SdS X 83 [(0, 18), (1, 0), (2, 0), (3, 0), (4, 0), (5, 0)] [0, 16, 11, 15, 18] _)
    refine su_bipush hC dX8_theft_83 (by decide) (?_ : SdS X 85 [(0, 18), (1, 0), (2, 0), (3, 0), (4, 0), (5, 0)] [0, 0, 16, 11, 15, 18] _)
    refine su_imul hC dX8_theft_85 (?_ : SdS X 86 [(0, 18), (1, 0), (2, 0), (3, 0), (4, 0), (5, 0)] [0, 16, 11, 15, 18] _)
    refine su_iload_n hC dX8_theft_86 rfl (by decide) (?_ : SdS X 87 [(0, 18), (1, 0), (2, 0), (3, 0), (4, 0), (5, 0)] [0, 0, 16, 11, 15, 18] _)
    refine su_iadd hC dX8_theft_87 (?_ : SdS X 88 [(0, 18), (1, 0), (2, 0), (3, 0), (4, 0), (5, 0)] [0, 16, 11, 15, 18] _)
    refine su_iload hC dX8_theft_88 (by decide) (?_ : SdS X 90 [(0, 18), (1, 0), (2, 0), (3, 0), (4, 0), (5, 0)] [0, 0, 16, 11, 15, 18] _)
    refine su_inv0 (τ := [18]) (τr := [11, 16, 0, 0]) (ci := 5) (q := (RX5, TX5, 3)) hC WG (M_X5_gatesOf _) rfl rfl rfl rfl  rfl rfl wl_5_26 wl_5_27 wl_5_28 wl_1_9 wl_5_29 hd_X5_gatesOf (by rw [e3]; decide) (by decide) dX8_theft_90 (?_ : SdS X 93 [(0, 18), (1, 0), (2, 0), (3, 0), (4, 0), (5, 0)] [0, 18] _)
    refine su_inv0 (τ := []) (τr := [0]) (ci := 8) (q := (RX8, TX8, 18)) hC WG (M_X8_grant _) rfl rfl rfl rfl  rfl rfl wl_3_225 wl_3_227 wp_34 wl_1_1 wl_3_228 hd_X8_grant (by rw [e3]; decide) (by decide) dX8_theft_93 (?_ : SdS X 96 [(0, 18), (1, 0), (2, 0), (3, 0), (4, 0), (5, 0)] [0] _)
    exact su_ireturn hC hT dX8_theft_96
  refine (?_ : SdS X 0 [(0, 18), (1, 0), (2, 0), (3, 0), (4, 0), (5, 0)] [] (E_X8_theft Q))
  unfold E_X8_theft
  refine su_aload_n hC 18 dX8_theft_0 rfl (by decide) (by decide) (?_ : SdS X 1 [(0, 18), (1, 0), (2, 0), (3, 0), (4, 0), (5, 0)] [18] _)
  refine su_iload_n hC dX8_theft_1 rfl (by decide) (?_ : SdS X 2 [(0, 18), (1, 0), (2, 0), (3, 0), (4, 0), (5, 0)] [0, 18] _)
  refine su_inv0 (τ := []) (τr := [0]) (ci := 8) (q := (RX8, TX8, 18)) hC WG (M_X8_isGood _) rfl rfl rfl rfl  rfl rfl wl_4_17 wl_4_19 wp_37 wl_1_1 wl_4_20 hd_X8_isGood (by rw [e3]; decide) (by decide) dX8_theft_2 (?_ : SdS X 5 [(0, 18), (1, 0), (2, 0), (3, 0), (4, 0), (5, 0)] [0] _)
  refine su_if_eq (tgt := 17) hC dX8_theft_5 rfl (?_ : SdS X 17 [(0, 18), (1, 0), (2, 0), (3, 0), (4, 0), (5, 0)] [] _) (?_ : SdS X 8 [(0, 18), (1, 0), (2, 0), (3, 0), (4, 0), (5, 0)] [] _)
  · exact SdS.weak (by decide) (S_17)
  · refine su_aload_n hC 18 dX8_theft_8 rfl (by decide) (by decide) (?_ : SdS X 9 [(0, 18), (1, 0), (2, 0), (3, 0), (4, 0), (5, 0)] [18] _)
    refine su_iload_n hC dX8_theft_9 rfl (by decide) (?_ : SdS X 10 [(0, 18), (1, 0), (2, 0), (3, 0), (4, 0), (5, 0)] [0, 18] _)
    refine su_iload_n hC dX8_theft_10 rfl (by decide) (?_ : SdS X 11 [(0, 18), (1, 0), (2, 0), (3, 0), (4, 0), (5, 0)] [0, 0, 18] _)
    refine su_inv0 (τ := []) (τr := [0, 0]) (ci := 8) (q := (RX8, TX8, 18)) hC WG (M_X8_isSpot _) rfl rfl rfl rfl  rfl rfl wl_4_67 wl_4_69 wp_41 wl_1_1 wl_4_70 hd_X8_isSpot (by rw [e3]; decide) (by decide) dX8_theft_11 (?_ : SdS X 14 [(0, 18), (1, 0), (2, 0), (3, 0), (4, 0), (5, 0)] [0] _)
    refine su_if_ne (tgt := 23) hC dX8_theft_14 rfl (?_ : SdS X 23 [(0, 18), (1, 0), (2, 0), (3, 0), (4, 0), (5, 0)] [] _) (?_ : SdS X 17 [(0, 18), (1, 0), (2, 0), (3, 0), (4, 0), (5, 0)] [] _)
    · refine su_iload hC dX8_theft_23 (by decide) (?_ : SdS X 25 [(0, 18), (1, 0), (2, 0), (3, 0), (4, 0), (5, 0)] [0] _)
      refine su_if_lt (tgt := 35) hC dX8_theft_25 rfl (?_ : SdS X 35 [(0, 18), (1, 0), (2, 0), (3, 0), (4, 0), (5, 0)] [] _) (?_ : SdS X 28 [(0, 18), (1, 0), (2, 0), (3, 0), (4, 0), (5, 0)] [] _)
      · exact SdS.weak (by decide) (S_35)
      · refine su_iload hC dX8_theft_28 (by decide) (?_ : SdS X 30 [(0, 18), (1, 0), (2, 0), (3, 0), (4, 0), (5, 0)] [0] _)
        refine su_bipush hC dX8_theft_30 (by decide) (?_ : SdS X 32 [(0, 18), (1, 0), (2, 0), (3, 0), (4, 0), (5, 0)] [0, 0] _)
        refine su_icmp_le (tgt := 41) hC dX8_theft_32 rfl (?_ : SdS X 41 [(0, 18), (1, 0), (2, 0), (3, 0), (4, 0), (5, 0)] [] _) (?_ : SdS X 35 [(0, 18), (1, 0), (2, 0), (3, 0), (4, 0), (5, 0)] [] _)
        · refine su_iload hC dX8_theft_41 (by decide) (?_ : SdS X 43 [(0, 18), (1, 0), (2, 0), (3, 0), (4, 0), (5, 0)] [0] _)
          refine su_if_eq (tgt := 63) hC dX8_theft_43 rfl (?_ : SdS X 63 [(0, 18), (1, 0), (2, 0), (3, 0), (4, 0), (5, 0)] [] _) (?_ : SdS X 46 [(0, 18), (1, 0), (2, 0), (3, 0), (4, 0), (5, 0)] [] _)
          · exact SdS.weak (by decide) (S_63)
          · refine su_aload_n hC 18 dX8_theft_46 rfl (by decide) (by decide) (?_ : SdS X 47 [(0, 18), (1, 0), (2, 0), (3, 0), (4, 0), (5, 0)] [18] _)
            refine su_getR hC (ci := 8) (j := 2) (C := RX8) (T := TX8) (N := 18) rfl rfl (by decide) in_X8 wl_2_110 rfl dX8_theft_47 (?_ : SdS X 50 [(0, 18), (1, 0), (2, 0), (3, 0), (4, 0), (5, 0)] [11] _)
            refine su_iload_n hC dX8_theft_50 rfl (by decide) (?_ : SdS X 51 [(0, 18), (1, 0), (2, 0), (3, 0), (4, 0), (5, 0)] [0, 11] _)
            refine su_inv0 (τ := []) (τr := [0]) (ci := 1) (q := (RX1, TX1, 12)) hC WG (M_X1_canCut _) rfl rfl rfl rfl  rfl rfl wl_4_31 wl_4_32 wl_4_33 wl_1_2 wl_4_34 hd_X1_canCut (by rw [e3]; decide) (by decide) dX8_theft_51 (?_ : SdS X 54 [(0, 18), (1, 0), (2, 0), (3, 0), (4, 0), (5, 0)] [0] _)
            refine su_if_ne (tgt := 63) hC dX8_theft_54 rfl (?_ : SdS X 63 [(0, 18), (1, 0), (2, 0), (3, 0), (4, 0), (5, 0)] [] _) (?_ : SdS X 57 [(0, 18), (1, 0), (2, 0), (3, 0), (4, 0), (5, 0)] [] _)
            · exact SdS.weak (by decide) (S_63)
            · refine su_aload_n hC 18 dX8_theft_57 rfl (by decide) (by decide) (?_ : SdS X 58 [(0, 18), (1, 0), (2, 0), (3, 0), (4, 0), (5, 0)] [18] _)
              refine su_iconst hC dX8_theft_58 ⟨by decide, by decide⟩ (?_ : SdS X 59 [(0, 18), (1, 0), (2, 0), (3, 0), (4, 0), (5, 0)] [0, 18] _)
              refine su_inv0 (τ := []) (τr := [0]) (ci := 8) (q := (RX8, TX8, 18)) hC WG (M_X8_refuse _) rfl rfl rfl rfl  rfl rfl wl_2_175 wl_2_177 wp_1 wl_1_1 wl_2_178 hd_X8_refuse (by rw [e3]; decide) (by decide) dX8_theft_59 (?_ : SdS X 62 [(0, 18), (1, 0), (2, 0), (3, 0), (4, 0), (5, 0)] [0] _)
              exact su_ireturn hC hT dX8_theft_62
        · exact SdS.weak (by decide) (S_35)
    · exact SdS.weak (by decide) (S_17)
theorem wl_2_47 : Cond.fieldLink RX8 238 "NarrowRings$Day" "paid" "[I" ∈ WALL := tb2 (List.mem_of_getElem? (i := 47) rfl) rfl
theorem hd_X8_tolls : yX8_tolls.cls ≠ "java/lang/invoke/MethodHandle" ∧ yX8_tolls.cls ≠ "java/lang/invoke/VarHandle" ∧ (parseMethodDescriptor yX8_tolls.desc).map (fun d => d.parameters.length) = some 1 := by decide +kernel
set_option maxRecDepth 100000 in
set_option maxHeartbeats 4000000 in
theorem M_X8_tolls (l : Launch) : MtS l yX8_tolls (Cond.code yX8_tolls cX8_tolls 2 (some .int) :: WALL) { frames := 2, cells := 0, slots := 0, locals := 42 } [18, 0] (some 0) T_X8_tolls := by
  refine MtS.mk (B := E_X8_tolls) (by decide +kernel) (by decide) (fun _ _ _ hh => hh) ?_
  intro X Q e1 e2 e3 hC hN hT
  subst e1
  have hC : CF X cX8_tolls RX8 WALL := hC
  refine (?_ : SdS X 0 [(0, 18), (1, 0)] [] (E_X8_tolls Q))
  unfold E_X8_tolls
  refine su_aload_n hC 18 dX8_tolls_0 rfl (by decide) (by decide) (?_ : SdS X 1 [(0, 18), (1, 0)] [18] _)
  refine su_iload_n hC dX8_tolls_1 rfl (by decide) (?_ : SdS X 2 [(0, 18), (1, 0)] [0, 18] _)
  refine su_inv0 (τ := []) (τr := [0]) (ci := 8) (q := (RX8, TX8, 18)) hC WG (M_X8_isGate _) rfl rfl rfl rfl  rfl rfl wl_4_2 wl_4_4 wp_35 wl_1_1 wl_4_5 hd_X8_isGate (by rw [e3]; decide) (by decide) dX8_tolls_2 (?_ : SdS X 5 [(0, 18), (1, 0)] [0] _)
  refine su_if_ne (tgt := 14) hC dX8_tolls_5 rfl (?_ : SdS X 14 [(0, 18), (1, 0)] [] _) (?_ : SdS X 8 [(0, 18), (1, 0)] [] _)
  · refine su_aload_n hC 18 dX8_tolls_14 rfl (by decide) (by decide) (?_ : SdS X 15 [(0, 18), (1, 0)] [18] _)
    refine su_aload_n hC 18 dX8_tolls_15 rfl (by decide) (by decide) (?_ : SdS X 16 [(0, 18), (1, 0)] [18, 18] _)
    refine su_getR hC (ci := 8) (j := 9) (C := RX8) (T := TX8) (N := 18) rfl rfl (by decide) in_X8 wl_2_117 rfl dX8_tolls_16 (?_ : SdS X 19 [(0, 18), (1, 0)] [12, 18] _)
    refine su_getR hC (ci := 2) (j := 5) (C := RX2) (T := TX2) (N := 10) rfl rfl (by decide) in_X2 wl_2_47 rfl dX8_tolls_19 (?_ : SdS X 22 [(0, 18), (1, 0)] [100, 18] _)
    refine su_iload_n hC dX8_tolls_22 rfl (by decide) (?_ : SdS X 23 [(0, 18), (1, 0)] [0, 100, 18] _)
    refine su_iaload hC dX8_tolls_23 (?_ : SdS X 24 [(0, 18), (1, 0)] [0, 18] _)
    refine su_inv0 (τ := []) (τr := [0]) (ci := 8) (q := (RX8, TX8, 18)) hC WG (M_X8_grant _) rfl rfl rfl rfl  rfl rfl wl_3_225 wl_3_227 wp_34 wl_1_1 wl_3_228 hd_X8_grant (by rw [e3]; decide) (by decide) dX8_tolls_24 (?_ : SdS X 27 [(0, 18), (1, 0)] [0] _)
    exact su_ireturn hC hT dX8_tolls_27
  · refine su_aload_n hC 18 dX8_tolls_8 rfl (by decide) (by decide) (?_ : SdS X 9 [(0, 18), (1, 0)] [18] _)
    refine su_iconst hC dX8_tolls_9 ⟨by decide, by decide⟩ (?_ : SdS X 10 [(0, 18), (1, 0)] [0, 18] _)
    refine su_inv0 (τ := []) (τr := [0]) (ci := 8) (q := (RX8, TX8, 18)) hC WG (M_X8_refuse _) rfl rfl rfl rfl  rfl rfl wl_2_175 wl_2_177 wp_1 wl_1_1 wl_2_178 hd_X8_refuse (by rw [e3]; decide) (by decide) dX8_tolls_10 (?_ : SdS X 13 [(0, 18), (1, 0)] [0] _)
    exact su_ireturn hC hT dX8_tolls_13
theorem hd_X8_trouble : yX8_trouble.cls ≠ "java/lang/invoke/MethodHandle" ∧ yX8_trouble.cls ≠ "java/lang/invoke/VarHandle" ∧ (parseMethodDescriptor yX8_trouble.desc).map (fun d => d.parameters.length) = some 0 := by decide +kernel
set_option maxRecDepth 100000 in
set_option maxHeartbeats 4000000 in
theorem M_X8_trouble (l : Launch) : MtS l yX8_trouble (Cond.code yX8_trouble cX8_trouble 1 (some .int) :: WALL) { frames := 0, cells := 0, slots := 0, locals := 0 } [18] (some 0) T_X8_trouble := by
  refine MtS.mk (B := E_X8_trouble) (by decide +kernel) (by decide) (fun _ _ _ hh => hh) ?_
  intro X Q e1 e2 e3 hC hN hT
  subst e1
  have hC : CF X cX8_trouble RX8 WALL := hC
  refine (?_ : SdS X 0 [(0, 18)] [] (E_X8_trouble Q))
  unfold E_X8_trouble
  refine su_aload_n hC 18 dX8_trouble_0 rfl (by decide) (by decide) (?_ : SdS X 1 [(0, 18)] [18] _)
  refine su_getF hC (ci := 8) (j := 17) (C := RX8) (T := TX8) (N := 18) rfl rfl (by decide) in_X8 wl_2_125 rfl dX8_trouble_1 (?_ : SdS X 4 [(0, 18)] [0] _)
  exact su_ireturn hC hT dX8_trouble_4
theorem wl_5_77 : Cond.methodLink RX8 290 yX0_takeBack ∈ WALL := tb5 (List.mem_of_getElem? (i := 77) rfl) rfl
theorem wl_5_78 : Cond.instanceMethod yX0_takeBack ∈ WALL := tb5 (List.mem_of_getElem? (i := 78) rfl) rfl
theorem wl_5_79 : Cond.selects RX0 yX0_takeBack yX0_takeBack ∈ WALL := tb5 (List.mem_of_getElem? (i := 79) rfl) rfl
theorem wl_5_80 : Cond.code yX0_takeBack cX0_takeBack 3 none ∈ WALL := tb5 (List.mem_of_getElem? (i := 80) rfl) rfl
theorem hd_X8_undo : yX8_undo.cls ≠ "java/lang/invoke/MethodHandle" ∧ yX8_undo.cls ≠ "java/lang/invoke/VarHandle" ∧ (parseMethodDescriptor yX8_undo.desc).map (fun d => d.parameters.length) = some 0 := by decide +kernel
set_option maxRecDepth 100000 in
set_option maxHeartbeats 4000000 in
theorem M_X8_undo (l : Launch) : MtS l yX8_undo (Cond.code yX8_undo cX8_undo 1 (some .boolean) :: WALL) { frames := 6, cells := 0, slots := 0, locals := 145 } [18] (some 0) T_X8_undo := by
  refine MtS.mk (B := E_X8_undo) (by decide +kernel) (by decide) (fun _ _ _ hh => hh) ?_
  intro X Q e1 e2 e3 hC hN hT
  subst e1
  have hC : CF X cX8_undo RX8 WALL := hC
  refine (?_ : SdS X 0 [(0, 18)] [] (E_X8_undo Q))
  unfold E_X8_undo
  refine su_aload_n hC 18 dX8_undo_0 rfl (by decide) (by decide) (?_ : SdS X 1 [(0, 18)] [18] _)
  refine su_getR hC (ci := 8) (j := 12) (C := RX8) (T := TX8) (N := 18) rfl rfl (by decide) in_X8 wl_2_120 rfl dX8_undo_1 (?_ : SdS X 4 [(0, 18)] [10] _)
  refine su_getF hC (ci := 0) (j := 0) (C := RX0) (T := TX0) (N := 2) rfl rfl (by decide) in_X0 wl_2_83 rfl dX8_undo_4 (?_ : SdS X 7 [(0, 18)] [0] _)
  refine su_if_ne (tgt := 17) hC dX8_undo_7 rfl (?_ : SdS X 17 [(0, 18)] [] _) (?_ : SdS X 10 [(0, 18)] [] _)
  · refine su_aload_n hC 18 dX8_undo_17 rfl (by decide) (by decide) (?_ : SdS X 18 [(0, 18)] [18] _)
    refine su_getR hC (ci := 8) (j := 12) (C := RX8) (T := TX8) (N := 18) rfl rfl (by decide) in_X8 wl_2_120 rfl dX8_undo_18 (?_ : SdS X 21 [(0, 18)] [10] _)
    refine su_aload_n hC 18 dX8_undo_21 rfl (by decide) (by decide) (?_ : SdS X 22 [(0, 18)] [18, 10] _)
    refine su_getR hC (ci := 8) (j := 2) (C := RX8) (T := TX8) (N := 18) rfl rfl (by decide) in_X8 wl_2_110 rfl dX8_undo_22 (?_ : SdS X 25 [(0, 18)] [11, 10] _)
    refine su_inv0v (τ := []) (τr := [11]) (ci := 0) (q := (RX0, TX0, 2)) hC WG (M_X0_takeBack _) rfl rfl rfl rfl  rfl rfl wl_5_77 wl_5_78 wl_5_79 wl_1_8 wl_5_80 hd_X0_takeBack (by rw [e3]; decide) (by decide) dX8_undo_25 (?_ : SdS X 28 [(0, 18)] [] _)
    refine su_aload_n hC 18 dX8_undo_28 rfl (by decide) (by decide) (?_ : SdS X 29 [(0, 18)] [18] _)
    refine su_inv0v (τ := []) (τr := []) (ci := 8) (q := (RX8, TX8, 18)) hC WG (M_X8_planAnew _) rfl rfl rfl rfl  rfl rfl wl_3_123 wl_3_125 wp_25 wl_1_1 wl_3_126 hd_X8_planAnew (by rw [e3]; decide) (by decide) dX8_undo_29 (?_ : SdS X 32 [(0, 18)] [] _)
    refine su_aload_n hC 18 dX8_undo_32 rfl (by decide) (by decide) (?_ : SdS X 33 [(0, 18)] [18] _)
    refine su_inv0 (τ := []) (τr := []) (ci := 8) (q := (RX8, TX8, 18)) hC WG (M_X8_allow _) rfl rfl rfl rfl  rfl rfl wl_4_171 wl_4_173 wp_57 wl_1_1 wl_4_174 hd_X8_allow (by rw [e3]; decide) (by decide) dX8_undo_33 (?_ : SdS X 36 [(0, 18)] [0] _)
    exact su_zreturn hC hT dX8_undo_36
  · refine su_aload_n hC 18 dX8_undo_10 rfl (by decide) (by decide) (?_ : SdS X 11 [(0, 18)] [18] _)
    refine su_bipush hC dX8_undo_11 (by decide) (?_ : SdS X 13 [(0, 18)] [0, 18] _)
    refine su_inv0 (τ := []) (τr := [0]) (ci := 8) (q := (RX8, TX8, 18)) hC WG (M_X8_deny _) rfl rfl rfl rfl  rfl rfl wl_4_167 wl_4_169 wp_56 wl_1_1 wl_4_170 hd_X8_deny (by rw [e3]; decide) (by decide) dX8_undo_13 (?_ : SdS X 16 [(0, 18)] [0] _)
    exact su_zreturn hC hT dX8_undo_16
theorem wl_4_203 : Cond.methodLink RX8 244 yX2_allWaits ∈ WALL := tb4 (List.mem_of_getElem? (i := 203) rfl) rfl
theorem wl_4_204 : Cond.instanceMethod yX2_allWaits ∈ WALL := tb4 (List.mem_of_getElem? (i := 204) rfl) rfl
theorem wl_4_205 : Cond.selects RX2 yX2_allWaits yX2_allWaits ∈ WALL := tb4 (List.mem_of_getElem? (i := 205) rfl) rfl
theorem wl_4_206 : Cond.code yX2_allWaits cX2_allWaits 3 (some .int) ∈ WALL := tb4 (List.mem_of_getElem? (i := 206) rfl) rfl
theorem hd_X8_waited : yX8_waited.cls ≠ "java/lang/invoke/MethodHandle" ∧ yX8_waited.cls ≠ "java/lang/invoke/VarHandle" ∧ (parseMethodDescriptor yX8_waited.desc).map (fun d => d.parameters.length) = some 0 := by decide +kernel
set_option maxRecDepth 100000 in
set_option maxHeartbeats 4000000 in
theorem M_X8_waited (l : Launch) : MtS l yX8_waited (Cond.code yX8_waited cX8_waited 1 (some .int) :: WALL) { frames := 1, cells := 0, slots := 0, locals := 22 } [18] (some 0) T_X8_waited := by
  refine MtS.mk (B := E_X8_waited) (by decide +kernel) (by decide) (fun _ _ _ hh => hh) ?_
  intro X Q e1 e2 e3 hC hN hT
  subst e1
  have hC : CF X cX8_waited RX8 WALL := hC
  refine (?_ : SdS X 0 [(0, 18)] [] (E_X8_waited Q))
  unfold E_X8_waited
  refine su_aload_n hC 18 dX8_waited_0 rfl (by decide) (by decide) (?_ : SdS X 1 [(0, 18)] [18] _)
  refine su_inv0 (τ := []) (τr := []) (ci := 8) (q := (RX8, TX8, 18)) hC WG (M_X8_isCity _) rfl rfl rfl rfl  rfl rfl wl_4_99 wl_4_101 wp_43 wl_1_1 wl_4_102 hd_X8_isCity (by rw [e3]; decide) (by decide) dX8_waited_1 (?_ : SdS X 4 [(0, 18)] [0] _)
  refine su_if_ne (tgt := 13) hC dX8_waited_4 rfl (?_ : SdS X 13 [(0, 18)] [] _) (?_ : SdS X 7 [(0, 18)] [] _)
  · refine su_aload_n hC 18 dX8_waited_13 rfl (by decide) (by decide) (?_ : SdS X 14 [(0, 18)] [18] _)
    refine su_aload_n hC 18 dX8_waited_14 rfl (by decide) (by decide) (?_ : SdS X 15 [(0, 18)] [18, 18] _)
    refine su_getR hC (ci := 8) (j := 9) (C := RX8) (T := TX8) (N := 18) rfl rfl (by decide) in_X8 wl_2_117 rfl dX8_waited_15 (?_ : SdS X 18 [(0, 18)] [12, 18] _)
    refine su_inv0 (τ := [18]) (τr := []) (ci := 2) (q := (RX2, TX2, 10)) hC WG (M_X2_allWaits _) rfl rfl rfl rfl  rfl rfl wl_4_203 wl_4_204 wl_4_205 wl_1_7 wl_4_206 hd_X2_allWaits (by rw [e3]; decide) (by decide) dX8_waited_18 (?_ : SdS X 21 [(0, 18)] [0, 18] _)
    refine su_inv0 (τ := []) (τr := [0]) (ci := 8) (q := (RX8, TX8, 18)) hC WG (M_X8_grant _) rfl rfl rfl rfl  rfl rfl wl_3_225 wl_3_227 wp_34 wl_1_1 wl_3_228 hd_X8_grant (by rw [e3]; decide) (by decide) dX8_waited_21 (?_ : SdS X 24 [(0, 18)] [0] _)
    exact su_ireturn hC hT dX8_waited_24
  · refine su_aload_n hC 18 dX8_waited_7 rfl (by decide) (by decide) (?_ : SdS X 8 [(0, 18)] [18] _)
    refine su_iconst hC dX8_waited_8 ⟨by decide, by decide⟩ (?_ : SdS X 9 [(0, 18)] [0, 18] _)
    refine su_inv0 (τ := []) (τr := [0]) (ci := 8) (q := (RX8, TX8, 18)) hC WG (M_X8_refuse _) rfl rfl rfl rfl  rfl rfl wl_2_175 wl_2_177 wp_1 wl_1_1 wl_2_178 hd_X8_refuse (by rw [e3]; decide) (by decide) dX8_waited_9 (?_ : SdS X 12 [(0, 18)] [0] _)
    exact su_ireturn hC hT dX8_waited_12
theorem hd_X8_where : yX8_where.cls ≠ "java/lang/invoke/MethodHandle" ∧ yX8_where.cls ≠ "java/lang/invoke/VarHandle" ∧ (parseMethodDescriptor yX8_where.desc).map (fun d => d.parameters.length) = some 0 := by decide +kernel
set_option maxRecDepth 100000 in
set_option maxHeartbeats 4000000 in
theorem M_X8_where (l : Launch) : MtS l yX8_where (Cond.code yX8_where cX8_where 1 (some .int) :: WALL) { frames := 0, cells := 0, slots := 0, locals := 0 } [18] (some 0) T_X8_where := by
  refine MtS.mk (B := E_X8_where) (by decide +kernel) (by decide) (fun _ _ _ hh => hh) ?_
  intro X Q e1 e2 e3 hC hN hT
  subst e1
  have hC : CF X cX8_where RX8 WALL := hC
  have S_16 : SdS X 16 [(0, 18)] [0] (B_X8_where_16 Q) := by
    unfold B_X8_where_16
    exact su_ireturn hC hT dX8_where_16
  refine (?_ : SdS X 0 [(0, 18)] [] (E_X8_where Q))
  unfold E_X8_where
  refine su_aload_n hC 18 dX8_where_0 rfl (by decide) (by decide) (?_ : SdS X 1 [(0, 18)] [18] _)
  refine su_getF hC (ci := 8) (j := 17) (C := RX8) (T := TX8) (N := 18) rfl rfl (by decide) in_X8 wl_2_125 rfl dX8_where_1 (?_ : SdS X 4 [(0, 18)] [0] _)
  refine su_iconst hC dX8_where_4 ⟨by decide, by decide⟩ (?_ : SdS X 5 [(0, 18)] [0, 0] _)
  refine su_icmp_ne (tgt := 15) hC dX8_where_5 rfl (?_ : SdS X 15 [(0, 18)] [] _) (?_ : SdS X 8 [(0, 18)] [] _)
  · refine su_iconst hC dX8_where_15 ⟨by decide, by decide⟩ (?_ : SdS X 16 [(0, 18)] [0] _)
    exact SdS.weak (by decide) (S_16)
  · refine su_aload_n hC 18 dX8_where_8 rfl (by decide) (by decide) (?_ : SdS X 9 [(0, 18)] [18] _)
    refine su_getF hC (ci := 8) (j := 16) (C := RX8) (T := TX8) (N := 18) rfl rfl (by decide) in_X8 wl_2_124 rfl dX8_where_9 (?_ : SdS X 12 [(0, 18)] [0] _)
    refine su_goto (tgt := 16) hC dX8_where_12 rfl (?_ : SdS X 16 [(0, 18)] [0] _)
    exact SdS.weak (by decide) (S_16)
theorem hd_X8_widen : yX8_widen.cls ≠ "java/lang/invoke/MethodHandle" ∧ yX8_widen.cls ≠ "java/lang/invoke/VarHandle" ∧ (parseMethodDescriptor yX8_widen.desc).map (fun d => d.parameters.length) = some 3 := by decide +kernel
set_option maxRecDepth 100000 in
set_option maxHeartbeats 4000000 in
theorem M_X8_widen (l : Launch) : MtS l yX8_widen (Cond.code yX8_widen cX8_widen 6 (some .boolean) :: WALL) { frames := 6, cells := 0, slots := 0, locals := 145 } [18, 0, 0, 0] (some 0) T_X8_widen := by
  refine MtS.mk (B := E_X8_widen) (by decide +kernel) (by decide) (fun _ _ _ hh => hh) ?_
  intro X Q e1 e2 e3 hC hN hT
  subst e1
  have hC : CF X cX8_widen RX8 WALL := hC
  have S_28 : SdS X 28 [(0, 18), (1, 0), (2, 0), (3, 0)] [] (B_X8_widen_28 Q) := by
    unfold B_X8_widen_28
    refine su_aload_n hC 18 dX8_widen_28 rfl (by decide) (by decide) (?_ : SdS X 29 [(0, 18), (1, 0), (2, 0), (3, 0)] [18] _)
    refine su_iconst hC dX8_widen_29 ⟨by decide, by decide⟩ (?_ : SdS X 30 [(0, 18), (1, 0), (2, 0), (3, 0)] [0, 18] _)
    refine su_inv0 (τ := []) (τr := [0]) (ci := 8) (q := (RX8, TX8, 18)) hC WG (M_X8_deny _) rfl rfl rfl rfl  rfl rfl wl_4_167 wl_4_169 wp_56 wl_1_1 wl_4_170 hd_X8_deny (by rw [e3]; decide) (by decide) dX8_widen_30 (?_ : SdS X 33 [(0, 18), (1, 0), (2, 0), (3, 0)] [0] _)
    exact su_zreturn hC hT dX8_widen_33
  have S_81 : SdS X 81 [(0, 18), (1, 0), (2, 0), (3, 0), (4, 100), (5, 0)] [] (B_X8_widen_81 Q) := by
    unfold B_X8_widen_81
    refine su_aload_n hC 18 dX8_widen_81 rfl (by decide) (by decide) (?_ : SdS X 82 [(0, 18), (1, 0), (2, 0), (3, 0), (4, 100), (5, 0)] [18] _)
    refine su_iconst hC dX8_widen_82 ⟨by decide, by decide⟩ (?_ : SdS X 83 [(0, 18), (1, 0), (2, 0), (3, 0), (4, 100), (5, 0)] [0, 18] _)
    refine su_inv0 (τ := []) (τr := [0]) (ci := 8) (q := (RX8, TX8, 18)) hC WG (M_X8_deny _) rfl rfl rfl rfl  rfl rfl wl_4_167 wl_4_169 wp_56 wl_1_1 wl_4_170 hd_X8_deny (by rw [e3]; decide) (by decide) dX8_widen_83 (?_ : SdS X 86 [(0, 18), (1, 0), (2, 0), (3, 0), (4, 100), (5, 0)] [0] _)
    exact su_zreturn hC hT dX8_widen_86
  have S_66 : SdS X 66 [(0, 18), (1, 0), (2, 0), (3, 0), (4, 100)] [0] (B_X8_widen_66 Q) := by
    unfold B_X8_widen_66
    refine su_istore (Γ' := [(0, 18), (1, 0), (2, 0), (3, 0), (4, 100), (5, 0)]) hC dX8_widen_66 (by rw [e2]; decide) (by decide) (?_ : SdS X 68 [(0, 18), (1, 0), (2, 0), (3, 0), (4, 100), (5, 0)] [] _)
    refine su_iload hC dX8_widen_68 (by decide) (?_ : SdS X 70 [(0, 18), (1, 0), (2, 0), (3, 0), (4, 100), (5, 0)] [0] _)
    refine su_if_eq (tgt := 81) hC dX8_widen_70 rfl (?_ : SdS X 81 [(0, 18), (1, 0), (2, 0), (3, 0), (4, 100), (5, 0)] [] _) (?_ : SdS X 73 [(0, 18), (1, 0), (2, 0), (3, 0), (4, 100), (5, 0)] [] _)
    · exact SdS.weak (by decide) (S_81)
    · refine su_aload hC 100 dX8_widen_73 (by decide) (by decide) (?_ : SdS X 75 [(0, 18), (1, 0), (2, 0), (3, 0), (4, 100), (5, 0)] [100] _)
      refine su_bipush hC dX8_widen_75 (by decide) (?_ : SdS X 77 [(0, 18), (1, 0), (2, 0), (3, 0), (4, 100), (5, 0)] [0, 100] _)
      refine su_iaload hC dX8_widen_77 (?_ : SdS X 78 [(0, 18), (1, 0), (2, 0), (3, 0), (4, 100), (5, 0)] [0] _)
      refine su_if_eq (tgt := 87) hC dX8_widen_78 rfl (?_ : SdS X 87 [(0, 18), (1, 0), (2, 0), (3, 0), (4, 100), (5, 0)] [] _) (?_ : SdS X 81 [(0, 18), (1, 0), (2, 0), (3, 0), (4, 100), (5, 0)] [] _)
      · refine su_aload_n hC 18 dX8_widen_87 rfl (by decide) (by decide) (?_ : SdS X 88 [(0, 18), (1, 0), (2, 0), (3, 0), (4, 100), (5, 0)] [18] _)
        refine su_getR hC (ci := 8) (j := 12) (C := RX8) (T := TX8) (N := 18) rfl rfl (by decide) in_X8 wl_2_120 rfl dX8_widen_88 (?_ : SdS X 91 [(0, 18), (1, 0), (2, 0), (3, 0), (4, 100), (5, 0)] [10] _)
        refine su_aload_n hC 18 dX8_widen_91 rfl (by decide) (by decide) (?_ : SdS X 92 [(0, 18), (1, 0), (2, 0), (3, 0), (4, 100), (5, 0)] [18, 10] _)
        refine su_getR hC (ci := 8) (j := 2) (C := RX8) (T := TX8) (N := 18) rfl rfl (by decide) in_X8 wl_2_110 rfl dX8_widen_92 (?_ : SdS X 95 [(0, 18), (1, 0), (2, 0), (3, 0), (4, 100), (5, 0)] [11, 10] _)
        refine su_iload_n hC dX8_widen_95 rfl (by decide) (?_ : SdS X 96 [(0, 18), (1, 0), (2, 0), (3, 0), (4, 100), (5, 0)] [0, 11, 10] _)
        refine su_inv0v (τ := []) (τr := [11, 0]) (ci := 0) (q := (RX0, TX0, 2)) hC WG (M_X0_keep _) rfl rfl rfl rfl  rfl rfl wl_5_56 wl_5_57 wl_5_58 wl_1_8 wl_5_59 hd_X0_keep (by rw [e3]; decide) (by decide) dX8_widen_96 (?_ : SdS X 99 [(0, 18), (1, 0), (2, 0), (3, 0), (4, 100), (5, 0)] [] _)
        refine su_aload hC 100 dX8_widen_99 (by decide) (by decide) (?_ : SdS X 101 [(0, 18), (1, 0), (2, 0), (3, 0), (4, 100), (5, 0)] [100] _)
        refine su_iload_n hC dX8_widen_101 rfl (by decide) (?_ : SdS X 102 [(0, 18), (1, 0), (2, 0), (3, 0), (4, 100), (5, 0)] [0, 100] _)
        refine su_iload_n hC dX8_widen_102 rfl (by decide) (?_ : SdS X 103 [(0, 18), (1, 0), (2, 0), (3, 0), (4, 100), (5, 0)] [0, 0, 100] _)
        refine su_invsv (τ := []) (τs := [100, 0, 0]) hC false "" WG (M_X8_enlarge _) rfl rfl rfl rfl wl_4_233 wl_4_234 wl_1_1 wl_4_235 hd_X8_enlarge (by rw [e3]; decide) (by decide) dX8_widen_103 (?_ : SdS X 106 [(0, 18), (1, 0), (2, 0), (3, 0), (4, 100), (5, 0)] [] _)
        refine su_aload_n hC 18 dX8_widen_106 rfl (by decide) (by decide) (?_ : SdS X 107 [(0, 18), (1, 0), (2, 0), (3, 0), (4, 100), (5, 0)] [18] _)
        refine su_inv0v (τ := []) (τr := []) (ci := 8) (q := (RX8, TX8, 18)) hC WG (M_X8_planAnew _) rfl rfl rfl rfl  rfl rfl wl_3_123 wl_3_125 wp_25 wl_1_1 wl_3_126 hd_X8_planAnew (by rw [e3]; decide) (by decide) dX8_widen_107 (?_ : SdS X 110 [(0, 18), (1, 0), (2, 0), (3, 0), (4, 100), (5, 0)] [] _)
        refine su_aload_n hC 18 dX8_widen_110 rfl (by decide) (by decide) (?_ : SdS X 111 [(0, 18), (1, 0), (2, 0), (3, 0), (4, 100), (5, 0)] [18] _)
        refine su_inv0 (τ := []) (τr := []) (ci := 8) (q := (RX8, TX8, 18)) hC WG (M_X8_allow _) rfl rfl rfl rfl  rfl rfl wl_4_171 wl_4_173 wp_57 wl_1_1 wl_4_174 hd_X8_allow (by rw [e3]; decide) (by decide) dX8_widen_111 (?_ : SdS X 114 [(0, 18), (1, 0), (2, 0), (3, 0), (4, 100), (5, 0)] [0] _)
        exact su_zreturn hC hT dX8_widen_114
      · exact SdS.weak (by decide) (S_81)
  have S_61 : SdS X 61 [(0, 18), (1, 0), (2, 0), (3, 0), (4, 100)] [] (B_X8_widen_61 Q) := by
    unfold B_X8_widen_61
    refine su_iconst hC dX8_widen_61 ⟨by decide, by decide⟩ (?_ : SdS X 62 [(0, 18), (1, 0), (2, 0), (3, 0), (4, 100)] [0] _)
    refine su_goto (tgt := 66) hC dX8_widen_62 rfl (?_ : SdS X 66 [(0, 18), (1, 0), (2, 0), (3, 0), (4, 100)] [0] _)
    exact SdS.weak (by decide) (S_66)
  refine (?_ : SdS X 0 [(0, 18), (1, 0), (2, 0), (3, 0)] [] (E_X8_widen Q))
  unfold E_X8_widen
  refine su_aload_n hC 18 dX8_widen_0 rfl (by decide) (by decide) (?_ : SdS X 1 [(0, 18), (1, 0), (2, 0), (3, 0)] [18] _)
  refine su_iload_n hC dX8_widen_1 rfl (by decide) (?_ : SdS X 2 [(0, 18), (1, 0), (2, 0), (3, 0)] [0, 18] _)
  refine su_inv0 (τ := []) (τr := [0]) (ci := 8) (q := (RX8, TX8, 18)) hC WG (M_X8_isGate _) rfl rfl rfl rfl  rfl rfl wl_4_2 wl_4_4 wp_35 wl_1_1 wl_4_5 hd_X8_isGate (by rw [e3]; decide) (by decide) dX8_widen_2 (?_ : SdS X 5 [(0, 18), (1, 0), (2, 0), (3, 0)] [0] _)
  refine su_if_ne (tgt := 14) hC dX8_widen_5 rfl (?_ : SdS X 14 [(0, 18), (1, 0), (2, 0), (3, 0)] [] _) (?_ : SdS X 8 [(0, 18), (1, 0), (2, 0), (3, 0)] [] _)
  · refine su_iload_n hC dX8_widen_14 rfl (by decide) (?_ : SdS X 15 [(0, 18), (1, 0), (2, 0), (3, 0)] [0] _)
    refine su_invs (τ := []) (τs := [0]) hC false "" WG (M_X8_isSize _) rfl rfl rfl rfl wl_4_226 wl_4_227 wl_1_1 wl_4_228 hd_X8_isSize (by rw [e3]; decide) (by decide) dX8_widen_15 (?_ : SdS X 18 [(0, 18), (1, 0), (2, 0), (3, 0)] [0] _)
    refine su_if_eq (tgt := 28) hC dX8_widen_18 rfl (?_ : SdS X 28 [(0, 18), (1, 0), (2, 0), (3, 0)] [] _) (?_ : SdS X 21 [(0, 18), (1, 0), (2, 0), (3, 0)] [] _)
    · exact SdS.weak (by decide) (S_28)
    · refine su_iload_n hC dX8_widen_21 rfl (by decide) (?_ : SdS X 22 [(0, 18), (1, 0), (2, 0), (3, 0)] [0] _)
      refine su_invs (τ := []) (τs := [0]) hC false "" WG (M_X8_isSize _) rfl rfl rfl rfl wl_4_226 wl_4_227 wl_1_1 wl_4_228 hd_X8_isSize (by rw [e3]; decide) (by decide) dX8_widen_22 (?_ : SdS X 25 [(0, 18), (1, 0), (2, 0), (3, 0)] [0] _)
      refine su_if_ne (tgt := 34) hC dX8_widen_25 rfl (?_ : SdS X 34 [(0, 18), (1, 0), (2, 0), (3, 0)] [] _) (?_ : SdS X 28 [(0, 18), (1, 0), (2, 0), (3, 0)] [] _)
      · refine su_aload_n hC 18 dX8_widen_34 rfl (by decide) (by decide) (?_ : SdS X 35 [(0, 18), (1, 0), (2, 0), (3, 0)] [18] _)
        refine su_getR hC (ci := 8) (j := 2) (C := RX8) (T := TX8) (N := 18) rfl rfl (by decide) in_X8 wl_2_110 rfl dX8_widen_35 (?_ : SdS X 38 [(0, 18), (1, 0), (2, 0), (3, 0)] [11] _)
        refine su_getR hC (ci := 1) (j := 6) (C := RX1) (T := TX1) (N := 12) rfl rfl (by decide) in_X1 wl_1_104 rfl dX8_widen_38 (?_ : SdS X 41 [(0, 18), (1, 0), (2, 0), (3, 0)] [200] _)
        refine su_iload_n hC dX8_widen_41 rfl (by decide) (?_ : SdS X 42 [(0, 18), (1, 0), (2, 0), (3, 0)] [0, 200] _)
        refine su_aaload (e := 100) hC (List.mem_of_getElem? (i := 7) rfl) rfl rfl rfl dX8_widen_42 (?_ : SdS X 43 [(0, 18), (1, 0), (2, 0), (3, 0)] [100] _)
        refine su_astore (Γ' := [(0, 18), (1, 0), (2, 0), (3, 0), (4, 100)]) hC dX8_widen_43 (by decide) (by rw [e2]; decide) (by decide) (?_ : SdS X 45 [(0, 18), (1, 0), (2, 0), (3, 0), (4, 100)] [] _)
        refine su_iload_n hC dX8_widen_45 rfl (by decide) (?_ : SdS X 46 [(0, 18), (1, 0), (2, 0), (3, 0), (4, 100)] [0] _)
        refine su_aload hC 100 dX8_widen_46 (by decide) (by decide) (?_ : SdS X 48 [(0, 18), (1, 0), (2, 0), (3, 0), (4, 100)] [100, 0] _)
        refine su_iconst hC dX8_widen_48 ⟨by decide, by decide⟩ (?_ : SdS X 49 [(0, 18), (1, 0), (2, 0), (3, 0), (4, 100)] [0, 100, 0] _)
        refine su_iaload hC dX8_widen_49 (?_ : SdS X 50 [(0, 18), (1, 0), (2, 0), (3, 0), (4, 100)] [0, 0] _)
        refine su_icmp_gt (tgt := 61) hC dX8_widen_50 rfl (?_ : SdS X 61 [(0, 18), (1, 0), (2, 0), (3, 0), (4, 100)] [] _) (?_ : SdS X 53 [(0, 18), (1, 0), (2, 0), (3, 0), (4, 100)] [] _)
        · exact SdS.weak (by decide) (S_61)
        · refine su_iload_n hC dX8_widen_53 rfl (by decide) (?_ : SdS X 54 [(0, 18), (1, 0), (2, 0), (3, 0), (4, 100)] [0] _)
          refine su_aload hC 100 dX8_widen_54 (by decide) (by decide) (?_ : SdS X 56 [(0, 18), (1, 0), (2, 0), (3, 0), (4, 100)] [100, 0] _)
          refine su_iconst hC dX8_widen_56 ⟨by decide, by decide⟩ (?_ : SdS X 57 [(0, 18), (1, 0), (2, 0), (3, 0), (4, 100)] [0, 100, 0] _)
          refine su_iaload hC dX8_widen_57 (?_ : SdS X 58 [(0, 18), (1, 0), (2, 0), (3, 0), (4, 100)] [0, 0] _)
          refine su_icmp_le (tgt := 65) hC dX8_widen_58 rfl (?_ : SdS X 65 [(0, 18), (1, 0), (2, 0), (3, 0), (4, 100)] [] _) (?_ : SdS X 61 [(0, 18), (1, 0), (2, 0), (3, 0), (4, 100)] [] _)
          · refine su_iconst hC dX8_widen_65 ⟨by decide, by decide⟩ (?_ : SdS X 66 [(0, 18), (1, 0), (2, 0), (3, 0), (4, 100)] [0] _)
            exact SdS.weak (by decide) (S_66)
          · exact SdS.weak (by decide) (S_61)
      · exact SdS.weak (by decide) (S_28)
  · refine su_aload_n hC 18 dX8_widen_8 rfl (by decide) (by decide) (?_ : SdS X 9 [(0, 18), (1, 0), (2, 0), (3, 0)] [18] _)
    refine su_iconst hC dX8_widen_9 ⟨by decide, by decide⟩ (?_ : SdS X 10 [(0, 18), (1, 0), (2, 0), (3, 0)] [0, 18] _)
    refine su_inv0 (τ := []) (τr := [0]) (ci := 8) (q := (RX8, TX8, 18)) hC WG (M_X8_deny _) rfl rfl rfl rfl  rfl rfl wl_4_167 wl_4_169 wp_56 wl_1_1 wl_4_170 hd_X8_deny (by rw [e3]; decide) (by decide) dX8_widen_10 (?_ : SdS X 13 [(0, 18), (1, 0), (2, 0), (3, 0)] [0] _)
    exact su_zreturn hC hT dX8_widen_13
theorem wl_2_49 : Cond.fieldLink RX8 241 "NarrowRings$Day" "toiled" "[I" ∈ WALL := tb2 (List.mem_of_getElem? (i := 49) rfl) rfl
theorem hd_X8_worked : yX8_worked.cls ≠ "java/lang/invoke/MethodHandle" ∧ yX8_worked.cls ≠ "java/lang/invoke/VarHandle" ∧ (parseMethodDescriptor yX8_worked.desc).map (fun d => d.parameters.length) = some 1 := by decide +kernel
set_option maxRecDepth 100000 in
set_option maxHeartbeats 4000000 in
theorem M_X8_worked (l : Launch) : MtS l yX8_worked (Cond.code yX8_worked cX8_worked 2 (some .int) :: WALL) { frames := 2, cells := 0, slots := 0, locals := 42 } [18, 0] (some 0) T_X8_worked := by
  refine MtS.mk (B := E_X8_worked) (by decide +kernel) (by decide) (fun _ _ _ hh => hh) ?_
  intro X Q e1 e2 e3 hC hN hT
  subst e1
  have hC : CF X cX8_worked RX8 WALL := hC
  refine (?_ : SdS X 0 [(0, 18), (1, 0)] [] (E_X8_worked Q))
  unfold E_X8_worked
  refine su_aload_n hC 18 dX8_worked_0 rfl (by decide) (by decide) (?_ : SdS X 1 [(0, 18), (1, 0)] [18] _)
  refine su_iload_n hC dX8_worked_1 rfl (by decide) (?_ : SdS X 2 [(0, 18), (1, 0)] [0, 18] _)
  refine su_inv0 (τ := []) (τr := [0]) (ci := 8) (q := (RX8, TX8, 18)) hC WG (M_X8_isGate _) rfl rfl rfl rfl  rfl rfl wl_4_2 wl_4_4 wp_35 wl_1_1 wl_4_5 hd_X8_isGate (by rw [e3]; decide) (by decide) dX8_worked_2 (?_ : SdS X 5 [(0, 18), (1, 0)] [0] _)
  refine su_if_ne (tgt := 14) hC dX8_worked_5 rfl (?_ : SdS X 14 [(0, 18), (1, 0)] [] _) (?_ : SdS X 8 [(0, 18), (1, 0)] [] _)
  · refine su_aload_n hC 18 dX8_worked_14 rfl (by decide) (by decide) (?_ : SdS X 15 [(0, 18), (1, 0)] [18] _)
    refine su_aload_n hC 18 dX8_worked_15 rfl (by decide) (by decide) (?_ : SdS X 16 [(0, 18), (1, 0)] [18, 18] _)
    refine su_getR hC (ci := 8) (j := 9) (C := RX8) (T := TX8) (N := 18) rfl rfl (by decide) in_X8 wl_2_117 rfl dX8_worked_16 (?_ : SdS X 19 [(0, 18), (1, 0)] [12, 18] _)
    refine su_getR hC (ci := 2) (j := 6) (C := RX2) (T := TX2) (N := 10) rfl rfl (by decide) in_X2 wl_2_49 rfl dX8_worked_19 (?_ : SdS X 22 [(0, 18), (1, 0)] [100, 18] _)
    refine su_iload_n hC dX8_worked_22 rfl (by decide) (?_ : SdS X 23 [(0, 18), (1, 0)] [0, 100, 18] _)
    refine su_iaload hC dX8_worked_23 (?_ : SdS X 24 [(0, 18), (1, 0)] [0, 18] _)
    refine su_inv0 (τ := []) (τr := [0]) (ci := 8) (q := (RX8, TX8, 18)) hC WG (M_X8_grant _) rfl rfl rfl rfl  rfl rfl wl_3_225 wl_3_227 wp_34 wl_1_1 wl_3_228 hd_X8_grant (by rw [e3]; decide) (by decide) dX8_worked_24 (?_ : SdS X 27 [(0, 18), (1, 0)] [0] _)
    exact su_ireturn hC hT dX8_worked_27
  · refine su_aload_n hC 18 dX8_worked_8 rfl (by decide) (by decide) (?_ : SdS X 9 [(0, 18), (1, 0)] [18] _)
    refine su_iconst hC dX8_worked_9 ⟨by decide, by decide⟩ (?_ : SdS X 10 [(0, 18), (1, 0)] [0, 18] _)
    refine su_inv0 (τ := []) (τr := [0]) (ci := 8) (q := (RX8, TX8, 18)) hC WG (M_X8_refuse _) rfl rfl rfl rfl  rfl rfl wl_2_175 wl_2_177 wp_1 wl_1_1 wl_2_178 hd_X8_refuse (by rw [e3]; decide) (by decide) dX8_worked_10 (?_ : SdS X 13 [(0, 18), (1, 0)] [0] _)
    exact su_ireturn hC hT dX8_worked_13

theorem wl_1_97 : Cond.fieldLink RX4 237 "NarrowRings$City" "orders" "I" ∈ WALL := tb1 (List.mem_of_getElem? (i := 97) rfl) rfl
theorem wl_1_114 : Cond.fieldLink RX4 240 "NarrowRings$City" "order" "[[I" ∈ WALL := tb1 (List.mem_of_getElem? (i := 114) rfl) rfl
theorem wl_3_108 : Cond.methodLink RX4 244 yX4_needGood ∈ WALL := tb3 (List.mem_of_getElem? (i := 108) rfl) rfl
theorem wl_3_110 : Cond.instanceMethod yX4_needGood ∈ WALL := tb3 (List.mem_of_getElem? (i := 110) rfl) rfl
theorem wp_22 : Cond.selects RX4 yX4_needGood yX4_needGood ∈ WALL := tbS (List.mem_of_getElem? (i := 22) rfl)
theorem wl_3_111 : Cond.code yX4_needGood cX4_needGood 4 (some .boolean) ∈ WALL := tb3 (List.mem_of_getElem? (i := 111) rfl) rfl
theorem wl_3_113 : Cond.methodLink RX4 250 yX4_needPlace ∈ WALL := tb3 (List.mem_of_getElem? (i := 113) rfl) rfl
theorem wl_3_115 : Cond.instanceMethod yX4_needPlace ∈ WALL := tb3 (List.mem_of_getElem? (i := 115) rfl) rfl
theorem wp_23 : Cond.selects RX4 yX4_needPlace yX4_needPlace ∈ WALL := tbS (List.mem_of_getElem? (i := 23) rfl)
theorem wl_3_116 : Cond.code yX4_needPlace cX4_needPlace 3 (some .boolean) ∈ WALL := tb3 (List.mem_of_getElem? (i := 116) rfl) rfl
theorem hd_X4_orderLine : yX4_orderLine.cls ≠ "java/lang/invoke/MethodHandle" ∧ yX4_orderLine.cls ≠ "java/lang/invoke/VarHandle" ∧ (parseMethodDescriptor yX4_orderLine.desc).map (fun d => d.parameters.length) = some 0 := by decide +kernel
set_option maxRecDepth 100000 in
set_option maxHeartbeats 4000000 in
theorem M_X4_orderLine (l : Launch) : MtS l yX4_orderLine (Cond.code yX4_orderLine cX4_orderLine 2 (some .boolean) :: WALL) { frames := 7, cells := 0, slots := 0, locals := 153 } [14] (some 0) T_X4_orderLine := by
  refine MtS.mk (B := E_X4_orderLine) (by decide +kernel) (by decide) (fun _ _ _ hh => hh) ?_
  intro X Q e1 e2 e3 hC hN hT
  subst e1
  have hC : CF X cX4_orderLine RX4 WALL := hC
  have S_156 : SdS X 156 [(0, 14), (1, 100)] [0] (B_X4_orderLine_156 Q) := by
    unfold B_X4_orderLine_156
    exact su_zreturn hC hT dX4_orderLine_156
  have S_155 : SdS X 155 [(0, 14), (1, 100)] [] (B_X4_orderLine_155 Q) := by
    unfold B_X4_orderLine_155
    refine su_iconst hC dX4_orderLine_155 ⟨by decide, by decide⟩ (?_ : SdS X 156 [(0, 14), (1, 100)] [0] _)
    exact SdS.weak (by decide) (S_156)
  refine (?_ : SdS X 0 [(0, 14)] [] (E_X4_orderLine Q))
  unfold E_X4_orderLine
  refine su_aload_n hC 14 dX4_orderLine_0 rfl (by decide) (by decide) (?_ : SdS X 1 [(0, 14)] [14] _)
  refine su_aload_n hC 14 dX4_orderLine_1 rfl (by decide) (by decide) (?_ : SdS X 2 [(0, 14)] [14, 14] _)
  refine su_getR hC (ci := 4) (j := 10) (C := RX4) (T := TX4) (N := 15) rfl rfl (by decide) in_X4 wl_1_163 rfl dX4_orderLine_2 (?_ : SdS X 5 [(0, 14)] [11, 14] _)
  refine su_getF hC (ci := 1) (j := 4) (C := RX1) (T := TX1) (N := 12) rfl rfl (by decide) in_X1 wl_1_97 rfl dX4_orderLine_5 (?_ : SdS X 8 [(0, 14)] [0, 14] _)
  refine su_bipush hC dX4_orderLine_8 (by decide) (?_ : SdS X 10 [(0, 14)] [0, 0, 14] _)
  refine su_inv0 (τ := []) (τr := [0, 0]) (ci := 4) (q := (RX4, TX4, 15)) hC WG (M_X4_mayTellRings _) rfl rfl rfl rfl  rfl rfl wl_3_30 wl_3_32 wp_9 wl_1_4 wl_3_33 hd_X4_mayTellRings (by rw [e3]; decide) (by decide) dX4_orderLine_10 (?_ : SdS X 13 [(0, 14)] [0] _)
  refine su_if_ne (tgt := 18) hC dX4_orderLine_13 rfl (?_ : SdS X 18 [(0, 14)] [] _) (?_ : SdS X 16 [(0, 14)] [] _)
  · refine su_aload_n hC 14 dX4_orderLine_18 rfl (by decide) (by decide) (?_ : SdS X 19 [(0, 14)] [14] _)
    refine su_getR hC (ci := 4) (j := 10) (C := RX4) (T := TX4) (N := 15) rfl rfl (by decide) in_X4 wl_1_163 rfl dX4_orderLine_19 (?_ : SdS X 22 [(0, 14)] [11] _)
    refine su_getR hC (ci := 1) (j := 9) (C := RX1) (T := TX1) (N := 12) rfl rfl (by decide) in_X1 wl_1_114 rfl dX4_orderLine_22 (?_ : SdS X 25 [(0, 14)] [200] _)
    refine su_aload_n hC 14 dX4_orderLine_25 rfl (by decide) (by decide) (?_ : SdS X 26 [(0, 14)] [14, 200] _)
    refine su_getR hC (ci := 4) (j := 10) (C := RX4) (T := TX4) (N := 15) rfl rfl (by decide) in_X4 wl_1_163 rfl dX4_orderLine_26 (?_ : SdS X 29 [(0, 14)] [11, 200] _)
    refine su_getF hC (ci := 1) (j := 4) (C := RX1) (T := TX1) (N := 12) rfl rfl (by decide) in_X1 wl_1_97 rfl dX4_orderLine_29 (?_ : SdS X 32 [(0, 14)] [0, 200] _)
    refine su_aaload (e := 100) hC (List.mem_of_getElem? (i := 7) rfl) rfl rfl rfl dX4_orderLine_32 (?_ : SdS X 33 [(0, 14)] [100] _)
    refine su_astore_n (Γ' := [(0, 14), (1, 100)]) hC dX4_orderLine_33 rfl (by decide) (by rw [e2]; decide) (by decide) (?_ : SdS X 34 [(0, 14), (1, 100)] [] _)
    refine su_aload_n hC 14 dX4_orderLine_34 rfl (by decide) (by decide) (?_ : SdS X 35 [(0, 14), (1, 100)] [14] _)
    refine su_getR hC (ci := 4) (j := 10) (C := RX4) (T := TX4) (N := 15) rfl rfl (by decide) in_X4 wl_1_163 rfl dX4_orderLine_35 (?_ : SdS X 38 [(0, 14), (1, 100)] [11] _)
    refine su_dup hC (by decide) dX4_orderLine_38 (?_ : SdS X 39 [(0, 14), (1, 100)] [11, 11] _)
    refine su_getF hC (ci := 1) (j := 4) (C := RX1) (T := TX1) (N := 12) rfl rfl (by decide) in_X1 wl_1_97 rfl dX4_orderLine_39 (?_ : SdS X 42 [(0, 14), (1, 100)] [0, 11] _)
    refine su_iconst hC dX4_orderLine_42 ⟨by decide, by decide⟩ (?_ : SdS X 43 [(0, 14), (1, 100)] [0, 0, 11] _)
    refine su_iadd hC dX4_orderLine_43 (?_ : SdS X 44 [(0, 14), (1, 100)] [0, 11] _)
    refine su_putF hC (ci := 1) (j := 4) (C := RX1) (T := TX1) (N := 12) tyX1 tyX1_ok nmX1 rfl rfl (by decide) in_X1 rfl rfl wl_1_97 rfl dX4_orderLine_44 (?_ : SdS X 47 [(0, 14), (1, 100)] [] _)
    refine su_aload_n hC 14 dX4_orderLine_47 rfl (by decide) (by decide) (?_ : SdS X 48 [(0, 14), (1, 100)] [14] _)
    refine su_inv0v (τ := []) (τr := []) (ci := 4) (q := (RX4, TX4, 15)) hC WG (M_X4_step _) rfl rfl rfl rfl  rfl rfl wl_2_190 wl_2_192 wp_2 wl_1_4 wl_2_193 hd_X4_step (by rw [e3]; decide) (by decide) dX4_orderLine_48 (?_ : SdS X 51 [(0, 14), (1, 100)] [] _)
    refine su_aload_n hC 14 dX4_orderLine_51 rfl (by decide) (by decide) (?_ : SdS X 52 [(0, 14), (1, 100)] [14] _)
    refine su_iconst hC dX4_orderLine_52 ⟨by decide, by decide⟩ (?_ : SdS X 53 [(0, 14), (1, 100)] [0, 14] _)
    refine su_inv0 (τ := []) (τr := [0]) (ci := 4) (q := (RX4, TX4, 15)) hC WG (M_X4_needNewName _) rfl rfl rfl rfl  rfl rfl wl_3_34 wl_3_36 wp_10 wl_1_4 wl_3_37 hd_X4_needNewName (by rw [e3]; decide) (by decide) dX4_orderLine_53 (?_ : SdS X 56 [(0, 14), (1, 100)] [0] _)
    refine su_if_eq (tgt := 155) hC dX4_orderLine_56 rfl (?_ : SdS X 155 [(0, 14), (1, 100)] [] _) (?_ : SdS X 59 [(0, 14), (1, 100)] [] _)
    · exact SdS.weak (by decide) (S_155)
    · refine su_aload_n hC 14 dX4_orderLine_59 rfl (by decide) (by decide) (?_ : SdS X 60 [(0, 14), (1, 100)] [14] _)
      refine su_ldcS hC (tx0 := "of") (i := 20) rfl (by decide) (by decide) dX4_orderLine_60 (?_ : SdS X 62 [(0, 14), (1, 100)] [5, 14] _)
      refine su_inv0 (τ := []) (τr := [5]) (ci := 4) (q := (RX4, TX4, 15)) hC WG (M_X4_needWord _) rfl rfl rfl rfl  rfl rfl wl_3_58 wl_3_60 wp_14 wl_1_4 wl_3_61 hd_X4_needWord (by rw [e3]; decide) (by decide) dX4_orderLine_62 (?_ : SdS X 65 [(0, 14), (1, 100)] [0] _)
      refine su_if_eq (tgt := 155) hC dX4_orderLine_65 rfl (?_ : SdS X 155 [(0, 14), (1, 100)] [] _) (?_ : SdS X 68 [(0, 14), (1, 100)] [] _)
      · exact SdS.weak (by decide) (S_155)
      · refine su_aload_n hC 14 dX4_orderLine_68 rfl (by decide) (by decide) (?_ : SdS X 69 [(0, 14), (1, 100)] [14] _)
        refine su_aload_n hC 100 dX4_orderLine_69 rfl (by decide) (by decide) (?_ : SdS X 70 [(0, 14), (1, 100)] [100, 14] _)
        refine su_iconst hC dX4_orderLine_70 ⟨by decide, by decide⟩ (?_ : SdS X 71 [(0, 14), (1, 100)] [0, 100, 14] _)
        refine su_inv0 (τ := []) (τr := [100, 0]) (ci := 4) (q := (RX4, TX4, 15)) hC WG (M_X4_needGood _) rfl rfl rfl rfl  rfl rfl wl_3_108 wl_3_110 wp_22 wl_1_4 wl_3_111 hd_X4_needGood (by rw [e3]; decide) (by decide) dX4_orderLine_71 (?_ : SdS X 74 [(0, 14), (1, 100)] [0] _)
        refine su_if_eq (tgt := 155) hC dX4_orderLine_74 rfl (?_ : SdS X 155 [(0, 14), (1, 100)] [] _) (?_ : SdS X 77 [(0, 14), (1, 100)] [] _)
        · exact SdS.weak (by decide) (S_155)
        · refine su_aload_n hC 14 dX4_orderLine_77 rfl (by decide) (by decide) (?_ : SdS X 78 [(0, 14), (1, 100)] [14] _)
          refine su_ldcS hC (tx0 := "from") (i := 21) rfl (by decide) (by decide) dX4_orderLine_78 (?_ : SdS X 80 [(0, 14), (1, 100)] [5, 14] _)
          refine su_iconst hC dX4_orderLine_80 ⟨by decide, by decide⟩ (?_ : SdS X 81 [(0, 14), (1, 100)] [0, 5, 14] _)
          refine su_aload_n hC 14 dX4_orderLine_81 rfl (by decide) (by decide) (?_ : SdS X 82 [(0, 14), (1, 100)] [14, 0, 5, 14] _)
          refine su_getR hC (ci := 4) (j := 10) (C := RX4) (T := TX4) (N := 15) rfl rfl (by decide) in_X4 wl_1_163 rfl dX4_orderLine_82 (?_ : SdS X 85 [(0, 14), (1, 100)] [11, 0, 5, 14] _)
          refine su_getF hC (ci := 1) (j := 0) (C := RX1) (T := TX1) (N := 12) rfl rfl (by decide) in_X1 wl_1_78 rfl dX4_orderLine_85 (?_ : SdS X 88 [(0, 14), (1, 100)] [0, 0, 5, 14] _)
          refine su_iconst hC dX4_orderLine_88 ⟨by decide, by decide⟩ (?_ : SdS X 89 [(0, 14), (1, 100)] [0, 0, 0, 5, 14] _)
          refine su_isub hC dX4_orderLine_89 (?_ : SdS X 90 [(0, 14), (1, 100)] [0, 0, 5, 14] _)
          refine su_aload_n hC 100 dX4_orderLine_90 rfl (by decide) (by decide) (?_ : SdS X 91 [(0, 14), (1, 100)] [100, 0, 0, 5, 14] _)
          refine su_iconst hC dX4_orderLine_91 ⟨by decide, by decide⟩ (?_ : SdS X 92 [(0, 14), (1, 100)] [0, 100, 0, 0, 5, 14] _)
          refine su_inv0 (τ := []) (τr := [5, 0, 0, 100, 0]) (ci := 4) (q := (RX4, TX4, 15)) hC WG (M_X4_needSaid _) rfl rfl rfl rfl  rfl rfl wl_3_54 wl_3_56 wp_13 wl_1_4 wl_3_57 hd_X4_needSaid (by rw [e3]; decide) (by decide) dX4_orderLine_92 (?_ : SdS X 95 [(0, 14), (1, 100)] [0] _)
          refine su_if_eq (tgt := 155) hC dX4_orderLine_95 rfl (?_ : SdS X 155 [(0, 14), (1, 100)] [] _) (?_ : SdS X 98 [(0, 14), (1, 100)] [] _)
          · exact SdS.weak (by decide) (S_155)
          · refine su_aload_n hC 14 dX4_orderLine_98 rfl (by decide) (by decide) (?_ : SdS X 99 [(0, 14), (1, 100)] [14] _)
            refine su_aload_n hC 100 dX4_orderLine_99 rfl (by decide) (by decide) (?_ : SdS X 100 [(0, 14), (1, 100)] [100, 14] _)
            refine su_iconst hC dX4_orderLine_100 ⟨by decide, by decide⟩ (?_ : SdS X 101 [(0, 14), (1, 100)] [0, 100, 14] _)
            refine su_inv0 (τ := []) (τr := [100, 0]) (ci := 4) (q := (RX4, TX4, 15)) hC WG (M_X4_needPlace _) rfl rfl rfl rfl  rfl rfl wl_3_113 wl_3_115 wp_23 wl_1_4 wl_3_116 hd_X4_needPlace (by rw [e3]; decide) (by decide) dX4_orderLine_101 (?_ : SdS X 104 [(0, 14), (1, 100)] [0] _)
            refine su_if_eq (tgt := 155) hC dX4_orderLine_104 rfl (?_ : SdS X 155 [(0, 14), (1, 100)] [] _) (?_ : SdS X 107 [(0, 14), (1, 100)] [] _)
            · exact SdS.weak (by decide) (S_155)
            · refine su_aload_n hC 14 dX4_orderLine_107 rfl (by decide) (by decide) (?_ : SdS X 108 [(0, 14), (1, 100)] [14] _)
              refine su_ldcS hC (tx0 := "to") (i := 22) rfl (by decide) (by decide) dX4_orderLine_108 (?_ : SdS X 110 [(0, 14), (1, 100)] [5, 14] _)
              refine su_iconst hC dX4_orderLine_110 ⟨by decide, by decide⟩ (?_ : SdS X 111 [(0, 14), (1, 100)] [0, 5, 14] _)
              refine su_aload_n hC 14 dX4_orderLine_111 rfl (by decide) (by decide) (?_ : SdS X 112 [(0, 14), (1, 100)] [14, 0, 5, 14] _)
              refine su_getR hC (ci := 4) (j := 10) (C := RX4) (T := TX4) (N := 15) rfl rfl (by decide) in_X4 wl_1_163 rfl dX4_orderLine_112 (?_ : SdS X 115 [(0, 14), (1, 100)] [11, 0, 5, 14] _)
              refine su_getF hC (ci := 1) (j := 0) (C := RX1) (T := TX1) (N := 12) rfl rfl (by decide) in_X1 wl_1_78 rfl dX4_orderLine_115 (?_ : SdS X 118 [(0, 14), (1, 100)] [0, 0, 5, 14] _)
              refine su_iconst hC dX4_orderLine_118 ⟨by decide, by decide⟩ (?_ : SdS X 119 [(0, 14), (1, 100)] [0, 0, 0, 5, 14] _)
              refine su_isub hC dX4_orderLine_119 (?_ : SdS X 120 [(0, 14), (1, 100)] [0, 0, 5, 14] _)
              refine su_aload_n hC 100 dX4_orderLine_120 rfl (by decide) (by decide) (?_ : SdS X 121 [(0, 14), (1, 100)] [100, 0, 0, 5, 14] _)
              refine su_iconst hC dX4_orderLine_121 ⟨by decide, by decide⟩ (?_ : SdS X 122 [(0, 14), (1, 100)] [0, 100, 0, 0, 5, 14] _)
              refine su_inv0 (τ := []) (τr := [5, 0, 0, 100, 0]) (ci := 4) (q := (RX4, TX4, 15)) hC WG (M_X4_needSaid _) rfl rfl rfl rfl  rfl rfl wl_3_54 wl_3_56 wp_13 wl_1_4 wl_3_57 hd_X4_needSaid (by rw [e3]; decide) (by decide) dX4_orderLine_122 (?_ : SdS X 125 [(0, 14), (1, 100)] [0] _)
              refine su_if_eq (tgt := 155) hC dX4_orderLine_125 rfl (?_ : SdS X 155 [(0, 14), (1, 100)] [] _) (?_ : SdS X 128 [(0, 14), (1, 100)] [] _)
              · exact SdS.weak (by decide) (S_155)
              · refine su_aload_n hC 14 dX4_orderLine_128 rfl (by decide) (by decide) (?_ : SdS X 129 [(0, 14), (1, 100)] [14] _)
                refine su_aload_n hC 100 dX4_orderLine_129 rfl (by decide) (by decide) (?_ : SdS X 130 [(0, 14), (1, 100)] [100, 14] _)
                refine su_iconst hC dX4_orderLine_130 ⟨by decide, by decide⟩ (?_ : SdS X 131 [(0, 14), (1, 100)] [0, 100, 14] _)
                refine su_inv0 (τ := []) (τr := [100, 0]) (ci := 4) (q := (RX4, TX4, 15)) hC WG (M_X4_needPlace _) rfl rfl rfl rfl  rfl rfl wl_3_113 wl_3_115 wp_23 wl_1_4 wl_3_116 hd_X4_needPlace (by rw [e3]; decide) (by decide) dX4_orderLine_131 (?_ : SdS X 134 [(0, 14), (1, 100)] [0] _)
                refine su_if_eq (tgt := 155) hC dX4_orderLine_134 rfl (?_ : SdS X 155 [(0, 14), (1, 100)] [] _) (?_ : SdS X 137 [(0, 14), (1, 100)] [] _)
                · exact SdS.weak (by decide) (S_155)
                · refine su_aload_n hC 14 dX4_orderLine_137 rfl (by decide) (by decide) (?_ : SdS X 138 [(0, 14), (1, 100)] [14] _)
                  refine su_ldcS hC (tx0 := "hour") (i := 23) rfl (by decide) (by decide) dX4_orderLine_138 (?_ : SdS X 140 [(0, 14), (1, 100)] [5, 14] _)
                  refine su_iconst hC dX4_orderLine_140 ⟨by decide, by decide⟩ (?_ : SdS X 141 [(0, 14), (1, 100)] [0, 5, 14] _)
                  refine su_bipush hC dX4_orderLine_141 (by decide) (?_ : SdS X 143 [(0, 14), (1, 100)] [0, 0, 5, 14] _)
                  refine su_aload_n hC 100 dX4_orderLine_143 rfl (by decide) (by decide) (?_ : SdS X 144 [(0, 14), (1, 100)] [100, 0, 0, 5, 14] _)
                  refine su_iconst hC dX4_orderLine_144 ⟨by decide, by decide⟩ (?_ : SdS X 145 [(0, 14), (1, 100)] [0, 100, 0, 0, 5, 14] _)
                  refine su_inv0 (τ := []) (τr := [5, 0, 0, 100, 0]) (ci := 4) (q := (RX4, TX4, 15)) hC WG (M_X4_needSaid _) rfl rfl rfl rfl  rfl rfl wl_3_54 wl_3_56 wp_13 wl_1_4 wl_3_57 hd_X4_needSaid (by rw [e3]; decide) (by decide) dX4_orderLine_145 (?_ : SdS X 148 [(0, 14), (1, 100)] [0] _)
                  refine su_if_eq (tgt := 155) hC dX4_orderLine_148 rfl (?_ : SdS X 155 [(0, 14), (1, 100)] [] _) (?_ : SdS X 151 [(0, 14), (1, 100)] [] _)
                  · exact SdS.weak (by decide) (S_155)
                  · refine su_iconst hC dX4_orderLine_151 ⟨by decide, by decide⟩ (?_ : SdS X 152 [(0, 14), (1, 100)] [0] _)
                    refine su_goto (tgt := 156) hC dX4_orderLine_152 rfl (?_ : SdS X 156 [(0, 14), (1, 100)] [0] _)
                    exact SdS.weak (by decide) (S_156)
  · refine su_iconst hC dX4_orderLine_16 ⟨by decide, by decide⟩ (?_ : SdS X 17 [(0, 14)] [0] _)
    exact su_zreturn hC hT dX4_orderLine_17
theorem wl_1_100 : Cond.fieldLink RX4 151 "NarrowRings$City" "width" "[I" ∈ WALL := tb1 (List.mem_of_getElem? (i := 100) rfl) rfl
theorem hd_X4_ringsLine : yX4_ringsLine.cls ≠ "java/lang/invoke/MethodHandle" ∧ yX4_ringsLine.cls ≠ "java/lang/invoke/VarHandle" ∧ (parseMethodDescriptor yX4_ringsLine.desc).map (fun d => d.parameters.length) = some 0 := by decide +kernel
set_option maxRecDepth 100000 in
set_option maxHeartbeats 4000000 in
theorem M_X4_ringsLine (l : Launch) : MtS l yX4_ringsLine (Cond.code yX4_ringsLine cX4_ringsLine 3 (some .boolean) :: WALL) { frames := 2, cells := 0, slots := 0, locals := 44 } [14] (some 0) T_X4_ringsLine := by
  refine MtS.mk (B := E_X4_ringsLine) (by decide +kernel) (by decide) (fun _ _ _ hh => hh) ?_
  intro X Q e1 e2 e3 hC hN hT
  subst e1
  have hC : CF X cX4_ringsLine RX4 WALL := hC
  have S_103 : SdS X 103 [(0, 14), (1, 0), (2, 0)] [] (B_X4_ringsLine_103 Q) := by
    unfold B_X4_ringsLine_103
    refine su_iload_n hC dX4_ringsLine_103 rfl (by decide) (?_ : SdS X 104 [(0, 14), (1, 0), (2, 0)] [0] _)
    refine su_iconst hC dX4_ringsLine_104 ⟨by decide, by decide⟩ (?_ : SdS X 105 [(0, 14), (1, 0), (2, 0)] [0, 0] _)
    refine su_icmp_ge (tgt := 118) hC dX4_ringsLine_105 rfl (?_ : SdS X 118 [(0, 14), (1, 0), (2, 0)] [] _) (?_ : SdS X 108 [(0, 14), (1, 0), (2, 0)] [] _)
    · refine su_aload_n hC 14 dX4_ringsLine_118 rfl (by decide) (by decide) (?_ : SdS X 119 [(0, 14), (1, 0), (2, 0)] [14] _)
      refine su_getR hC (ci := 4) (j := 10) (C := RX4) (T := TX4) (N := 15) rfl rfl (by decide) in_X4 wl_1_163 rfl dX4_ringsLine_119 (?_ : SdS X 122 [(0, 14), (1, 0), (2, 0)] [11] _)
      refine su_iload_n hC dX4_ringsLine_122 rfl (by decide) (?_ : SdS X 123 [(0, 14), (1, 0), (2, 0)] [0, 11] _)
      refine su_putF hC (ci := 1) (j := 0) (C := RX1) (T := TX1) (N := 12) tyX1 tyX1_ok nmX1 rfl rfl (by decide) in_X1 rfl rfl wl_1_78 rfl dX4_ringsLine_123 (?_ : SdS X 126 [(0, 14), (1, 0), (2, 0)] [] _)
      refine su_iconst hC dX4_ringsLine_126 ⟨by decide, by decide⟩ (?_ : SdS X 127 [(0, 14), (1, 0), (2, 0)] [0] _)
      exact su_zreturn hC hT dX4_ringsLine_127
    · refine su_aload_n hC 14 dX4_ringsLine_108 rfl (by decide) (by decide) (?_ : SdS X 109 [(0, 14), (1, 0), (2, 0)] [14] _)
      refine su_iconst hC dX4_ringsLine_109 ⟨by decide, by decide⟩ (?_ : SdS X 110 [(0, 14), (1, 0), (2, 0)] [0, 14] _)
      refine su_aload_n hC 14 dX4_ringsLine_110 rfl (by decide) (by decide) (?_ : SdS X 111 [(0, 14), (1, 0), (2, 0)] [14, 0, 14] _)
      refine su_getF hC (ci := 4) (j := 3) (C := RX4) (T := TX4) (N := 15) rfl rfl (by decide) in_X4 wl_1_156 rfl dX4_ringsLine_111 (?_ : SdS X 114 [(0, 14), (1, 0), (2, 0)] [0, 0, 14] _)
      refine su_inv0 (τ := []) (τr := [0, 0]) (ci := 4) (q := (RX4, TX4, 15)) hC WG (M_X4_flaw _) rfl rfl rfl rfl  rfl rfl wl_3_17 wl_3_19 wp_6 wl_1_4 wl_3_20 hd_X4_flaw (by rw [e3]; decide) (by decide) dX4_ringsLine_114 (?_ : SdS X 117 [(0, 14), (1, 0), (2, 0)] [0] _)
      exact su_zreturn hC hT dX4_ringsLine_117
  have S_49 : ∀ (k25 : xK), SdS X 25 [(0, 14), (1, 0), (2, 0)] [] k25 → SdS X 49 [(0, 14), (1, 0), (2, 0)] [0, 14] (B_X4_ringsLine_49 Q k25) := by
    intro k25 h25
    unfold B_X4_ringsLine_49
    refine su_aload_n hC 14 dX4_ringsLine_49 rfl (by decide) (by decide) (?_ : SdS X 50 [(0, 14), (1, 0), (2, 0)] [14, 0, 14] _)
    refine su_getF hC (ci := 4) (j := 3) (C := RX4) (T := TX4) (N := 15) rfl rfl (by decide) in_X4 wl_1_156 rfl dX4_ringsLine_50 (?_ : SdS X 53 [(0, 14), (1, 0), (2, 0)] [0, 0, 14] _)
    refine su_inv0 (τ := []) (τr := [0, 0]) (ci := 4) (q := (RX4, TX4, 15)) hC WG (M_X4_flaw _) rfl rfl rfl rfl  rfl rfl wl_3_17 wl_3_19 wp_6 wl_1_4 wl_3_20 hd_X4_flaw (by rw [e3]; decide) (by decide) dX4_ringsLine_53 (?_ : SdS X 56 [(0, 14), (1, 0), (2, 0)] [0] _)
    exact su_zreturn hC hT dX4_ringsLine_56
  have S_25 : SdS X 25 [(0, 14), (1, 0), (2, 0)] [] (L_X4_ringsLine_25 Q) := by
    unfold L_X4_ringsLine_25
    refine SdS.loop (fun k25 h25 => ?_)
    refine su_aload_n hC 14 dX4_ringsLine_25 rfl (by decide) (by decide) (?_ : SdS X 26 [(0, 14), (1, 0), (2, 0)] [14] _)
    refine su_inv0v (τ := []) (τr := []) (ci := 4) (q := (RX4, TX4, 15)) hC WG (M_X4_step _) rfl rfl rfl rfl  rfl rfl wl_2_190 wl_2_192 wp_2 wl_1_4 wl_2_193 hd_X4_step (by rw [e3]; decide) (by decide) dX4_ringsLine_26 (?_ : SdS X 29 [(0, 14), (1, 0), (2, 0)] [] _)
    refine su_iload_n hC dX4_ringsLine_29 rfl (by decide) (?_ : SdS X 30 [(0, 14), (1, 0), (2, 0)] [0] _)
    refine su_bipush hC dX4_ringsLine_30 (by decide) (?_ : SdS X 32 [(0, 14), (1, 0), (2, 0)] [0, 0] _)
    refine su_icmp_lt (tgt := 57) hC dX4_ringsLine_32 rfl (?_ : SdS X 57 [(0, 14), (1, 0), (2, 0)] [] _) (?_ : SdS X 35 [(0, 14), (1, 0), (2, 0)] [] _)
    · refine su_aload_n hC 14 dX4_ringsLine_57 rfl (by decide) (by decide) (?_ : SdS X 58 [(0, 14), (1, 0), (2, 0)] [14] _)
      refine su_iconst hC dX4_ringsLine_58 ⟨by decide, by decide⟩ (?_ : SdS X 59 [(0, 14), (1, 0), (2, 0)] [0, 14] _)
      refine su_iload_n hC dX4_ringsLine_59 rfl (by decide) (?_ : SdS X 60 [(0, 14), (1, 0), (2, 0)] [0, 0, 14] _)
      refine su_inv0 (τ := []) (τr := [0, 0]) (ci := 4) (q := (RX4, TX4, 15)) hC WG (M_X4_needWhole _) rfl rfl rfl rfl  rfl rfl wl_3_21 wl_3_23 wp_7 wl_1_4 wl_3_24 hd_X4_needWhole (by rw [e3]; decide) (by decide) dX4_ringsLine_60 (?_ : SdS X 63 [(0, 14), (1, 0), (2, 0)] [0] _)
      refine su_if_ne (tgt := 68) hC dX4_ringsLine_63 rfl (?_ : SdS X 68 [(0, 14), (1, 0), (2, 0)] [] _) (?_ : SdS X 66 [(0, 14), (1, 0), (2, 0)] [] _)
      · refine su_aload_n hC 14 dX4_ringsLine_68 rfl (by decide) (by decide) (?_ : SdS X 69 [(0, 14), (1, 0), (2, 0)] [14] _)
        refine su_getF hC (ci := 4) (j := 8) (C := RX4) (T := TX4) (N := 15) rfl rfl (by decide) in_X4 wl_1_161 rfl dX4_ringsLine_69 (?_ : SdS X 72 [(0, 14), (1, 0), (2, 0)] [0] _)
        refine su_istore_n (Γ' := [(0, 14), (1, 0), (2, 0)]) hC dX4_ringsLine_72 rfl (by rw [e2]; decide) (by decide) (?_ : SdS X 73 [(0, 14), (1, 0), (2, 0)] [] _)
        refine su_aload_n hC 14 dX4_ringsLine_73 rfl (by decide) (by decide) (?_ : SdS X 74 [(0, 14), (1, 0), (2, 0)] [14] _)
        refine su_getR hC (ci := 4) (j := 10) (C := RX4) (T := TX4) (N := 15) rfl rfl (by decide) in_X4 wl_1_163 rfl dX4_ringsLine_74 (?_ : SdS X 77 [(0, 14), (1, 0), (2, 0)] [11] _)
        refine su_getR hC (ci := 1) (j := 5) (C := RX1) (T := TX1) (N := 12) rfl rfl (by decide) in_X1 wl_1_100 rfl dX4_ringsLine_77 (?_ : SdS X 80 [(0, 14), (1, 0), (2, 0)] [100] _)
        refine su_iload_n hC dX4_ringsLine_80 rfl (by decide) (?_ : SdS X 81 [(0, 14), (1, 0), (2, 0)] [0, 100] _)
        refine su_aload_n hC 14 dX4_ringsLine_81 rfl (by decide) (by decide) (?_ : SdS X 82 [(0, 14), (1, 0), (2, 0)] [14, 0, 100] _)
        refine su_getF hC (ci := 4) (j := 8) (C := RX4) (T := TX4) (N := 15) rfl rfl (by decide) in_X4 wl_1_161 rfl dX4_ringsLine_82 (?_ : SdS X 85 [(0, 14), (1, 0), (2, 0)] [0, 0, 100] _)
        refine su_iastore hC dX4_ringsLine_85 (?_ : SdS X 86 [(0, 14), (1, 0), (2, 0)] [] _)
        refine su_iinc (Γ' := [(0, 14), (1, 0), (2, 0)]) hC dX4_ringsLine_86 (by decide) (by rw [e2]; decide) (by decide) (?_ : SdS X 89 [(0, 14), (1, 0), (2, 0)] [] _)
        refine su_aload_n hC 14 dX4_ringsLine_89 rfl (by decide) (by decide) (?_ : SdS X 90 [(0, 14), (1, 0), (2, 0)] [14] _)
        refine su_getF hC (ci := 4) (j := 5) (C := RX4) (T := TX4) (N := 15) rfl rfl (by decide) in_X4 wl_1_158 rfl dX4_ringsLine_90 (?_ : SdS X 93 [(0, 14), (1, 0), (2, 0)] [0] _)
        refine su_iconst hC dX4_ringsLine_93 ⟨by decide, by decide⟩ (?_ : SdS X 94 [(0, 14), (1, 0), (2, 0)] [0, 0] _)
        refine su_icmp_ne (tgt := 103) hC dX4_ringsLine_94 rfl (?_ : SdS X 103 [(0, 14), (1, 0), (2, 0)] [] _) (?_ : SdS X 97 [(0, 14), (1, 0), (2, 0)] [] _)
        · exact SdS.weak (by decide) (S_103)
        · refine su_iload_n hC dX4_ringsLine_97 rfl (by decide) (?_ : SdS X 98 [(0, 14), (1, 0), (2, 0)] [0] _)
          refine su_bipush hC dX4_ringsLine_98 (by decide) (?_ : SdS X 100 [(0, 14), (1, 0), (2, 0)] [0, 0] _)
          refine su_icmp_le (tgt := 25) hC dX4_ringsLine_100 rfl (?_ : SdS X 25 [(0, 14), (1, 0), (2, 0)] [] _) (?_ : SdS X 103 [(0, 14), (1, 0), (2, 0)] [] _)
          · exact SdS.weak (by decide) h25
          · exact SdS.weak (by decide) (S_103)
      · refine su_iconst hC dX4_ringsLine_66 ⟨by decide, by decide⟩ (?_ : SdS X 67 [(0, 14), (1, 0), (2, 0)] [0] _)
        exact su_zreturn hC hT dX4_ringsLine_67
    · refine su_aload_n hC 14 dX4_ringsLine_35 rfl (by decide) (by decide) (?_ : SdS X 36 [(0, 14), (1, 0), (2, 0)] [14] _)
      refine su_aload_n hC 14 dX4_ringsLine_36 rfl (by decide) (by decide) (?_ : SdS X 37 [(0, 14), (1, 0), (2, 0)] [14, 14] _)
      refine su_getF hC (ci := 4) (j := 5) (C := RX4) (T := TX4) (N := 15) rfl rfl (by decide) in_X4 wl_1_158 rfl dX4_ringsLine_37 (?_ : SdS X 40 [(0, 14), (1, 0), (2, 0)] [0, 14] _)
      refine su_iconst hC dX4_ringsLine_40 ⟨by decide, by decide⟩ (?_ : SdS X 41 [(0, 14), (1, 0), (2, 0)] [0, 0, 14] _)
      refine su_icmp_ne (tgt := 48) hC dX4_ringsLine_41 rfl (?_ : SdS X 48 [(0, 14), (1, 0), (2, 0)] [14] _) (?_ : SdS X 44 [(0, 14), (1, 0), (2, 0)] [14] _)
      · refine su_iconst hC dX4_ringsLine_48 ⟨by decide, by decide⟩ (?_ : SdS X 49 [(0, 14), (1, 0), (2, 0)] [0, 14] _)
        exact SdS.weak (by decide) (S_49 k25 h25)
      · refine su_iconst hC dX4_ringsLine_44 ⟨by decide, by decide⟩ (?_ : SdS X 45 [(0, 14), (1, 0), (2, 0)] [0, 14] _)
        refine su_goto (tgt := 49) hC dX4_ringsLine_45 rfl (?_ : SdS X 49 [(0, 14), (1, 0), (2, 0)] [0, 14] _)
        exact SdS.weak (by decide) (S_49 k25 h25)
  refine (?_ : SdS X 0 [(0, 14)] [] (E_X4_ringsLine Q))
  unfold E_X4_ringsLine
  refine su_aload_n hC 14 dX4_ringsLine_0 rfl (by decide) (by decide) (?_ : SdS X 1 [(0, 14)] [14] _)
  refine su_getR hC (ci := 4) (j := 10) (C := RX4) (T := TX4) (N := 15) rfl rfl (by decide) in_X4 wl_1_163 rfl dX4_ringsLine_1 (?_ : SdS X 4 [(0, 14)] [11] _)
  refine su_getF hC (ci := 1) (j := 0) (C := RX1) (T := TX1) (N := 12) rfl rfl (by decide) in_X1 wl_1_78 rfl dX4_ringsLine_4 (?_ : SdS X 7 [(0, 14)] [0] _)
  refine su_if_le (tgt := 20) hC dX4_ringsLine_7 rfl (?_ : SdS X 20 [(0, 14)] [] _) (?_ : SdS X 10 [(0, 14)] [] _)
  · refine su_bipush hC dX4_ringsLine_20 (by decide) (?_ : SdS X 22 [(0, 14)] [0] _)
    refine su_istore_n (Γ' := [(0, 14), (1, 0)]) hC dX4_ringsLine_22 rfl (by rw [e2]; decide) (by decide) (?_ : SdS X 23 [(0, 14), (1, 0)] [] _)
    refine su_iconst hC dX4_ringsLine_23 ⟨by decide, by decide⟩ (?_ : SdS X 24 [(0, 14), (1, 0)] [0] _)
    refine su_istore_n (Γ' := [(0, 14), (1, 0), (2, 0)]) hC dX4_ringsLine_24 rfl (by rw [e2]; decide) (by decide) (?_ : SdS X 25 [(0, 14), (1, 0), (2, 0)] [] _)
    exact SdS.weak (by decide) (S_25)
  · refine su_aload_n hC 14 dX4_ringsLine_10 rfl (by decide) (by decide) (?_ : SdS X 11 [(0, 14)] [14] _)
    refine su_iconst hC dX4_ringsLine_11 ⟨by decide, by decide⟩ (?_ : SdS X 12 [(0, 14)] [0, 14] _)
    refine su_aload_n hC 14 dX4_ringsLine_12 rfl (by decide) (by decide) (?_ : SdS X 13 [(0, 14)] [14, 0, 14] _)
    refine su_getF hC (ci := 4) (j := 3) (C := RX4) (T := TX4) (N := 15) rfl rfl (by decide) in_X4 wl_1_156 rfl dX4_ringsLine_13 (?_ : SdS X 16 [(0, 14)] [0, 0, 14] _)
    refine su_inv0 (τ := []) (τr := [0, 0]) (ci := 4) (q := (RX4, TX4, 15)) hC WG (M_X4_flaw _) rfl rfl rfl rfl  rfl rfl wl_3_17 wl_3_19 wp_6 wl_1_4 wl_3_20 hd_X4_flaw (by rw [e3]; decide) (by decide) dX4_ringsLine_16 (?_ : SdS X 19 [(0, 14)] [0] _)
    exact su_zreturn hC hT dX4_ringsLine_19
theorem wl_1_111 : Cond.fieldLink RX4 189 "NarrowRings$City" "store" "[[I" ∈ WALL := tb1 (List.mem_of_getElem? (i := 111) rfl) rfl
theorem hd_X4_storeLine : yX4_storeLine.cls ≠ "java/lang/invoke/MethodHandle" ∧ yX4_storeLine.cls ≠ "java/lang/invoke/VarHandle" ∧ (parseMethodDescriptor yX4_storeLine.desc).map (fun d => d.parameters.length) = some 0 := by decide +kernel
set_option maxRecDepth 100000 in
set_option maxHeartbeats 4000000 in
theorem M_X4_storeLine (l : Launch) : MtS l yX4_storeLine (Cond.code yX4_storeLine cX4_storeLine 3 (some .boolean) :: WALL) { frames := 7, cells := 0, slots := 0, locals := 153 } [14] (some 0) T_X4_storeLine := by
  refine MtS.mk (B := E_X4_storeLine) (by decide +kernel) (by decide) (fun _ _ _ hh => hh) ?_
  intro X Q e1 e2 e3 hC hN hT
  subst e1
  have hC : CF X cX4_storeLine RX4 WALL := hC
  have S_104 : SdS X 104 [(0, 14), (1, 0), (2, 100)] [0] (B_X4_storeLine_104 Q) := by
    unfold B_X4_storeLine_104
    exact su_zreturn hC hT dX4_storeLine_104
  have S_103 : SdS X 103 [(0, 14), (1, 0), (2, 100)] [] (B_X4_storeLine_103 Q) := by
    unfold B_X4_storeLine_103
    refine su_iconst hC dX4_storeLine_103 ⟨by decide, by decide⟩ (?_ : SdS X 104 [(0, 14), (1, 0), (2, 100)] [0] _)
    exact SdS.weak (by decide) (S_104)
  refine (?_ : SdS X 0 [(0, 14)] [] (E_X4_storeLine Q))
  unfold E_X4_storeLine
  refine su_aload_n hC 14 dX4_storeLine_0 rfl (by decide) (by decide) (?_ : SdS X 1 [(0, 14)] [14] _)
  refine su_iconst hC dX4_storeLine_1 ⟨by decide, by decide⟩ (?_ : SdS X 2 [(0, 14)] [0, 14] _)
  refine su_bipush hC dX4_storeLine_2 (by decide) (?_ : SdS X 4 [(0, 14)] [0, 0, 14] _)
  refine su_inv0 (τ := []) (τr := [0, 0]) (ci := 4) (q := (RX4, TX4, 15)) hC WG (M_X4_mayTellRings _) rfl rfl rfl rfl  rfl rfl wl_3_30 wl_3_32 wp_9 wl_1_4 wl_3_33 hd_X4_mayTellRings (by rw [e3]; decide) (by decide) dX4_storeLine_4 (?_ : SdS X 7 [(0, 14)] [0] _)
  refine su_if_ne (tgt := 12) hC dX4_storeLine_7 rfl (?_ : SdS X 12 [(0, 14)] [] _) (?_ : SdS X 10 [(0, 14)] [] _)
  · refine su_aload_n hC 14 dX4_storeLine_12 rfl (by decide) (by decide) (?_ : SdS X 13 [(0, 14)] [14] _)
    refine su_inv0v (τ := []) (τr := []) (ci := 4) (q := (RX4, TX4, 15)) hC WG (M_X4_step _) rfl rfl rfl rfl  rfl rfl wl_2_190 wl_2_192 wp_2 wl_1_4 wl_2_193 hd_X4_step (by rw [e3]; decide) (by decide) dX4_storeLine_13 (?_ : SdS X 16 [(0, 14)] [] _)
    refine su_aload_n hC 14 dX4_storeLine_16 rfl (by decide) (by decide) (?_ : SdS X 17 [(0, 14)] [14] _)
    refine su_getF hC (ci := 4) (j := 3) (C := RX4) (T := TX4) (N := 15) rfl rfl (by decide) in_X4 wl_1_156 rfl dX4_storeLine_17 (?_ : SdS X 20 [(0, 14)] [0] _)
    refine su_istore_n (Γ' := [(0, 14), (1, 0)]) hC dX4_storeLine_20 rfl (by rw [e2]; decide) (by decide) (?_ : SdS X 21 [(0, 14), (1, 0)] [] _)
    refine su_aload_n hC 14 dX4_storeLine_21 rfl (by decide) (by decide) (?_ : SdS X 22 [(0, 14), (1, 0)] [14] _)
    refine su_iconst hC dX4_storeLine_22 ⟨by decide, by decide⟩ (?_ : SdS X 23 [(0, 14), (1, 0)] [0, 14] _)
    refine su_aload_n hC 14 dX4_storeLine_23 rfl (by decide) (by decide) (?_ : SdS X 24 [(0, 14), (1, 0)] [14, 0, 14] _)
    refine su_getR hC (ci := 4) (j := 10) (C := RX4) (T := TX4) (N := 15) rfl rfl (by decide) in_X4 wl_1_163 rfl dX4_storeLine_24 (?_ : SdS X 27 [(0, 14), (1, 0)] [11, 0, 14] _)
    refine su_getF hC (ci := 1) (j := 0) (C := RX1) (T := TX1) (N := 12) rfl rfl (by decide) in_X1 wl_1_78 rfl dX4_storeLine_27 (?_ : SdS X 30 [(0, 14), (1, 0)] [0, 0, 14] _)
    refine su_iconst hC dX4_storeLine_30 ⟨by decide, by decide⟩ (?_ : SdS X 31 [(0, 14), (1, 0)] [0, 0, 0, 14] _)
    refine su_isub hC dX4_storeLine_31 (?_ : SdS X 32 [(0, 14), (1, 0)] [0, 0, 14] _)
    refine su_inv0 (τ := []) (τr := [0, 0]) (ci := 4) (q := (RX4, TX4, 15)) hC WG (M_X4_needWhole _) rfl rfl rfl rfl  rfl rfl wl_3_21 wl_3_23 wp_7 wl_1_4 wl_3_24 hd_X4_needWhole (by rw [e3]; decide) (by decide) dX4_storeLine_32 (?_ : SdS X 35 [(0, 14), (1, 0)] [0] _)
    refine su_if_ne (tgt := 40) hC dX4_storeLine_35 rfl (?_ : SdS X 40 [(0, 14), (1, 0)] [] _) (?_ : SdS X 38 [(0, 14), (1, 0)] [] _)
    · refine su_aload_n hC 14 dX4_storeLine_40 rfl (by decide) (by decide) (?_ : SdS X 41 [(0, 14), (1, 0)] [14] _)
      refine su_getR hC (ci := 4) (j := 10) (C := RX4) (T := TX4) (N := 15) rfl rfl (by decide) in_X4 wl_1_163 rfl dX4_storeLine_41 (?_ : SdS X 44 [(0, 14), (1, 0)] [11] _)
      refine su_getR hC (ci := 1) (j := 8) (C := RX1) (T := TX1) (N := 12) rfl rfl (by decide) in_X1 wl_1_111 rfl dX4_storeLine_44 (?_ : SdS X 47 [(0, 14), (1, 0)] [200] _)
      refine su_aload_n hC 14 dX4_storeLine_47 rfl (by decide) (by decide) (?_ : SdS X 48 [(0, 14), (1, 0)] [14, 200] _)
      refine su_getF hC (ci := 4) (j := 8) (C := RX4) (T := TX4) (N := 15) rfl rfl (by decide) in_X4 wl_1_161 rfl dX4_storeLine_48 (?_ : SdS X 51 [(0, 14), (1, 0)] [0, 200] _)
      refine su_aaload (e := 100) hC (List.mem_of_getElem? (i := 7) rfl) rfl rfl rfl dX4_storeLine_51 (?_ : SdS X 52 [(0, 14), (1, 0)] [100] _)
      refine su_astore_n (Γ' := [(0, 14), (1, 0), (2, 100)]) hC dX4_storeLine_52 rfl (by decide) (by rw [e2]; decide) (by decide) (?_ : SdS X 53 [(0, 14), (1, 0), (2, 100)] [] _)
      refine su_aload_n hC 100 dX4_storeLine_53 rfl (by decide) (by decide) (?_ : SdS X 54 [(0, 14), (1, 0), (2, 100)] [100] _)
      refine su_iconst hC dX4_storeLine_54 ⟨by decide, by decide⟩ (?_ : SdS X 55 [(0, 14), (1, 0), (2, 100)] [0, 100] _)
      refine su_iaload hC dX4_storeLine_55 (?_ : SdS X 56 [(0, 14), (1, 0), (2, 100)] [0] _)
      refine su_if_eq (tgt := 66) hC dX4_storeLine_56 rfl (?_ : SdS X 66 [(0, 14), (1, 0), (2, 100)] [] _) (?_ : SdS X 59 [(0, 14), (1, 0), (2, 100)] [] _)
      · refine su_aload_n hC 100 dX4_storeLine_66 rfl (by decide) (by decide) (?_ : SdS X 67 [(0, 14), (1, 0), (2, 100)] [100] _)
        refine su_iconst hC dX4_storeLine_67 ⟨by decide, by decide⟩ (?_ : SdS X 68 [(0, 14), (1, 0), (2, 100)] [0, 100] _)
        refine su_iconst hC dX4_storeLine_68 ⟨by decide, by decide⟩ (?_ : SdS X 69 [(0, 14), (1, 0), (2, 100)] [0, 0, 100] _)
        refine su_iastore hC dX4_storeLine_69 (?_ : SdS X 70 [(0, 14), (1, 0), (2, 100)] [] _)
        refine su_aload_n hC 14 dX4_storeLine_70 rfl (by decide) (by decide) (?_ : SdS X 71 [(0, 14), (1, 0), (2, 100)] [14] _)
        refine su_ldcS hC (tx0 := "bread") (i := 16) rfl (by decide) (by decide) dX4_storeLine_71 (?_ : SdS X 73 [(0, 14), (1, 0), (2, 100)] [5, 14] _)
        refine su_iconst hC dX4_storeLine_73 ⟨by decide, by decide⟩ (?_ : SdS X 74 [(0, 14), (1, 0), (2, 100)] [0, 5, 14] _)
        refine su_sipush hC dX4_storeLine_74 (by decide) (?_ : SdS X 77 [(0, 14), (1, 0), (2, 100)] [0, 0, 5, 14] _)
        refine su_aload_n hC 100 dX4_storeLine_77 rfl (by decide) (by decide) (?_ : SdS X 78 [(0, 14), (1, 0), (2, 100)] [100, 0, 0, 5, 14] _)
        refine su_iconst hC dX4_storeLine_78 ⟨by decide, by decide⟩ (?_ : SdS X 79 [(0, 14), (1, 0), (2, 100)] [0, 100, 0, 0, 5, 14] _)
        refine su_inv0 (τ := []) (τr := [5, 0, 0, 100, 0]) (ci := 4) (q := (RX4, TX4, 15)) hC WG (M_X4_needSaid _) rfl rfl rfl rfl  rfl rfl wl_3_54 wl_3_56 wp_13 wl_1_4 wl_3_57 hd_X4_needSaid (by rw [e3]; decide) (by decide) dX4_storeLine_79 (?_ : SdS X 82 [(0, 14), (1, 0), (2, 100)] [0] _)
        refine su_if_eq (tgt := 103) hC dX4_storeLine_82 rfl (?_ : SdS X 103 [(0, 14), (1, 0), (2, 100)] [] _) (?_ : SdS X 85 [(0, 14), (1, 0), (2, 100)] [] _)
        · exact SdS.weak (by decide) (S_103)
        · refine su_aload_n hC 14 dX4_storeLine_85 rfl (by decide) (by decide) (?_ : SdS X 86 [(0, 14), (1, 0), (2, 100)] [14] _)
          refine su_ldcS hC (tx0 := "mouths") (i := 17) rfl (by decide) (by decide) dX4_storeLine_86 (?_ : SdS X 88 [(0, 14), (1, 0), (2, 100)] [5, 14] _)
          refine su_iconst hC dX4_storeLine_88 ⟨by decide, by decide⟩ (?_ : SdS X 89 [(0, 14), (1, 0), (2, 100)] [0, 5, 14] _)
          refine su_bipush hC dX4_storeLine_89 (by decide) (?_ : SdS X 91 [(0, 14), (1, 0), (2, 100)] [0, 0, 5, 14] _)
          refine su_aload_n hC 100 dX4_storeLine_91 rfl (by decide) (by decide) (?_ : SdS X 92 [(0, 14), (1, 0), (2, 100)] [100, 0, 0, 5, 14] _)
          refine su_iconst hC dX4_storeLine_92 ⟨by decide, by decide⟩ (?_ : SdS X 93 [(0, 14), (1, 0), (2, 100)] [0, 100, 0, 0, 5, 14] _)
          refine su_inv0 (τ := []) (τr := [5, 0, 0, 100, 0]) (ci := 4) (q := (RX4, TX4, 15)) hC WG (M_X4_needSaid _) rfl rfl rfl rfl  rfl rfl wl_3_54 wl_3_56 wp_13 wl_1_4 wl_3_57 hd_X4_needSaid (by rw [e3]; decide) (by decide) dX4_storeLine_93 (?_ : SdS X 96 [(0, 14), (1, 0), (2, 100)] [0] _)
          refine su_if_eq (tgt := 103) hC dX4_storeLine_96 rfl (?_ : SdS X 103 [(0, 14), (1, 0), (2, 100)] [] _) (?_ : SdS X 99 [(0, 14), (1, 0), (2, 100)] [] _)
          · exact SdS.weak (by decide) (S_103)
          · refine su_iconst hC dX4_storeLine_99 ⟨by decide, by decide⟩ (?_ : SdS X 100 [(0, 14), (1, 0), (2, 100)] [0] _)
            refine su_goto (tgt := 104) hC dX4_storeLine_100 rfl (?_ : SdS X 104 [(0, 14), (1, 0), (2, 100)] [0] _)
            exact SdS.weak (by decide) (S_104)
      · refine su_aload_n hC 14 dX4_storeLine_59 rfl (by decide) (by decide) (?_ : SdS X 60 [(0, 14), (1, 0), (2, 100)] [14] _)
        refine su_iconst hC dX4_storeLine_60 ⟨by decide, by decide⟩ (?_ : SdS X 61 [(0, 14), (1, 0), (2, 100)] [0, 14] _)
        refine su_iload_n hC dX4_storeLine_61 rfl (by decide) (?_ : SdS X 62 [(0, 14), (1, 0), (2, 100)] [0, 0, 14] _)
        refine su_inv0 (τ := []) (τr := [0, 0]) (ci := 4) (q := (RX4, TX4, 15)) hC WG (M_X4_flaw _) rfl rfl rfl rfl  rfl rfl wl_3_17 wl_3_19 wp_6 wl_1_4 wl_3_20 hd_X4_flaw (by rw [e3]; decide) (by decide) dX4_storeLine_62 (?_ : SdS X 65 [(0, 14), (1, 0), (2, 100)] [0] _)
        exact su_zreturn hC hT dX4_storeLine_65
    · refine su_iconst hC dX4_storeLine_38 ⟨by decide, by decide⟩ (?_ : SdS X 39 [(0, 14), (1, 0)] [0] _)
      exact su_zreturn hC hT dX4_storeLine_39
  · refine su_iconst hC dX4_storeLine_10 ⟨by decide, by decide⟩ (?_ : SdS X 11 [(0, 14)] [0] _)
    exact su_zreturn hC hT dX4_storeLine_11
theorem wl_3_103 : Cond.methodLink RX4 148 yX4_orderLine ∈ WALL := tb3 (List.mem_of_getElem? (i := 103) rfl) rfl
theorem wl_3_105 : Cond.instanceMethod yX4_orderLine ∈ WALL := tb3 (List.mem_of_getElem? (i := 105) rfl) rfl
theorem wp_21 : Cond.selects RX4 yX4_orderLine yX4_orderLine ∈ WALL := tbS (List.mem_of_getElem? (i := 21) rfl)
theorem wl_3_106 : Cond.code yX4_orderLine cX4_orderLine 2 (some .boolean) ∈ WALL := tb3 (List.mem_of_getElem? (i := 106) rfl) rfl
theorem wl_3_82 : Cond.methodLink RX4 145 yX4_goodLine ∈ WALL := tb3 (List.mem_of_getElem? (i := 82) rfl) rfl
theorem wl_3_84 : Cond.instanceMethod yX4_goodLine ∈ WALL := tb3 (List.mem_of_getElem? (i := 84) rfl) rfl
theorem wp_18 : Cond.selects RX4 yX4_goodLine yX4_goodLine ∈ WALL := tbS (List.mem_of_getElem? (i := 18) rfl)
theorem wl_3_85 : Cond.code yX4_goodLine cX4_goodLine 3 (some .boolean) ∈ WALL := tb3 (List.mem_of_getElem? (i := 85) rfl) rfl
theorem wl_3_76 : Cond.methodLink RX4 142 yX4_storeLine ∈ WALL := tb3 (List.mem_of_getElem? (i := 76) rfl) rfl
theorem wl_3_78 : Cond.instanceMethod yX4_storeLine ∈ WALL := tb3 (List.mem_of_getElem? (i := 78) rfl) rfl
theorem wp_17 : Cond.selects RX4 yX4_storeLine yX4_storeLine ∈ WALL := tbS (List.mem_of_getElem? (i := 17) rfl)
theorem wl_3_79 : Cond.code yX4_storeLine cX4_storeLine 3 (some .boolean) ∈ WALL := tb3 (List.mem_of_getElem? (i := 79) rfl) rfl
theorem wl_3_71 : Cond.methodLink RX4 139 yX4_cartLine ∈ WALL := tb3 (List.mem_of_getElem? (i := 71) rfl) rfl
theorem wl_3_73 : Cond.instanceMethod yX4_cartLine ∈ WALL := tb3 (List.mem_of_getElem? (i := 73) rfl) rfl
theorem wp_16 : Cond.selects RX4 yX4_cartLine yX4_cartLine ∈ WALL := tbS (List.mem_of_getElem? (i := 16) rfl)
theorem wl_3_74 : Cond.code yX4_cartLine cX4_cartLine 2 (some .boolean) ∈ WALL := tb3 (List.mem_of_getElem? (i := 74) rfl) rfl
theorem wl_3_26 : Cond.methodLink RX4 136 yX4_gateLine ∈ WALL := tb3 (List.mem_of_getElem? (i := 26) rfl) rfl
theorem wl_3_28 : Cond.instanceMethod yX4_gateLine ∈ WALL := tb3 (List.mem_of_getElem? (i := 28) rfl) rfl
theorem wp_8 : Cond.selects RX4 yX4_gateLine yX4_gateLine ∈ WALL := tbS (List.mem_of_getElem? (i := 8) rfl)
theorem wl_3_29 : Cond.code yX4_gateLine cX4_gateLine 2 (some .boolean) ∈ WALL := tb3 (List.mem_of_getElem? (i := 29) rfl) rfl
theorem wl_3_13 : Cond.methodLink RX4 133 yX4_ringsLine ∈ WALL := tb3 (List.mem_of_getElem? (i := 13) rfl) rfl
theorem wl_3_15 : Cond.instanceMethod yX4_ringsLine ∈ WALL := tb3 (List.mem_of_getElem? (i := 15) rfl) rfl
theorem wp_5 : Cond.selects RX4 yX4_ringsLine yX4_ringsLine ∈ WALL := tbS (List.mem_of_getElem? (i := 5) rfl)
theorem wl_3_16 : Cond.code yX4_ringsLine cX4_ringsLine 3 (some .boolean) ∈ WALL := tb3 (List.mem_of_getElem? (i := 16) rfl) rfl
theorem hd_X4_readLine : yX4_readLine.cls ≠ "java/lang/invoke/MethodHandle" ∧ yX4_readLine.cls ≠ "java/lang/invoke/VarHandle" ∧ (parseMethodDescriptor yX4_readLine.desc).map (fun d => d.parameters.length) = some 0 := by decide +kernel
set_option maxRecDepth 100000 in
set_option maxHeartbeats 4000000 in
theorem M_X4_readLine (l : Launch) : MtS l yX4_readLine (Cond.code yX4_readLine cX4_readLine 1 (some .boolean) :: WALL) { frames := 8, cells := 0, slots := 0, locals := 175 } [14] (some 0) T_X4_readLine := by
  refine MtS.mk (B := E_X4_readLine) (by decide +kernel) (by decide) (fun _ _ _ hh => hh) ?_
  intro X Q e1 e2 e3 hC hN hT
  subst e1
  have hC : CF X cX4_readLine RX4 WALL := hC
  have S_95 : SdS X 95 [(0, 14)] [0] (B_X4_readLine_95 Q) := by
    unfold B_X4_readLine_95
    exact su_zreturn hC hT dX4_readLine_95
  refine (?_ : SdS X 0 [(0, 14)] [] (E_X4_readLine Q))
  unfold E_X4_readLine
  refine su_aload_n hC 14 dX4_readLine_0 rfl (by decide) (by decide) (?_ : SdS X 1 [(0, 14)] [14] _)
  refine su_ldcS hC (tx0 := "rings") (i := 0) rfl (by decide) (by decide) dX4_readLine_1 (?_ : SdS X 3 [(0, 14)] [5, 14] _)
  refine su_inv0 (τ := []) (τr := [5]) (ci := 4) (q := (RX4, TX4, 15)) hC WG (M_X4_isWord _) rfl rfl rfl rfl  rfl rfl wl_2_201 wl_2_203 wp_4 wl_1_4 wl_2_204 hd_X4_isWord (by rw [e3]; decide) (by decide) dX4_readLine_3 (?_ : SdS X 6 [(0, 14)] [0] _)
  refine su_if_eq (tgt := 14) hC dX4_readLine_6 rfl (?_ : SdS X 14 [(0, 14)] [] _) (?_ : SdS X 9 [(0, 14)] [] _)
  · refine su_aload_n hC 14 dX4_readLine_14 rfl (by decide) (by decide) (?_ : SdS X 15 [(0, 14)] [14] _)
    refine su_ldcS hC (tx0 := "gate") (i := 1) rfl (by decide) (by decide) dX4_readLine_15 (?_ : SdS X 17 [(0, 14)] [5, 14] _)
    refine su_inv0 (τ := []) (τr := [5]) (ci := 4) (q := (RX4, TX4, 15)) hC WG (M_X4_isWord _) rfl rfl rfl rfl  rfl rfl wl_2_201 wl_2_203 wp_4 wl_1_4 wl_2_204 hd_X4_isWord (by rw [e3]; decide) (by decide) dX4_readLine_17 (?_ : SdS X 20 [(0, 14)] [0] _)
    refine su_if_eq (tgt := 28) hC dX4_readLine_20 rfl (?_ : SdS X 28 [(0, 14)] [] _) (?_ : SdS X 23 [(0, 14)] [] _)
    · refine su_aload_n hC 14 dX4_readLine_28 rfl (by decide) (by decide) (?_ : SdS X 29 [(0, 14)] [14] _)
      refine su_ldcS hC (tx0 := "cart") (i := 2) rfl (by decide) (by decide) dX4_readLine_29 (?_ : SdS X 31 [(0, 14)] [5, 14] _)
      refine su_inv0 (τ := []) (τr := [5]) (ci := 4) (q := (RX4, TX4, 15)) hC WG (M_X4_isWord _) rfl rfl rfl rfl  rfl rfl wl_2_201 wl_2_203 wp_4 wl_1_4 wl_2_204 hd_X4_isWord (by rw [e3]; decide) (by decide) dX4_readLine_31 (?_ : SdS X 34 [(0, 14)] [0] _)
      refine su_if_eq (tgt := 42) hC dX4_readLine_34 rfl (?_ : SdS X 42 [(0, 14)] [] _) (?_ : SdS X 37 [(0, 14)] [] _)
      · refine su_aload_n hC 14 dX4_readLine_42 rfl (by decide) (by decide) (?_ : SdS X 43 [(0, 14)] [14] _)
        refine su_ldcS hC (tx0 := "store") (i := 3) rfl (by decide) (by decide) dX4_readLine_43 (?_ : SdS X 45 [(0, 14)] [5, 14] _)
        refine su_inv0 (τ := []) (τr := [5]) (ci := 4) (q := (RX4, TX4, 15)) hC WG (M_X4_isWord _) rfl rfl rfl rfl  rfl rfl wl_2_201 wl_2_203 wp_4 wl_1_4 wl_2_204 hd_X4_isWord (by rw [e3]; decide) (by decide) dX4_readLine_45 (?_ : SdS X 48 [(0, 14)] [0] _)
        refine su_if_eq (tgt := 56) hC dX4_readLine_48 rfl (?_ : SdS X 56 [(0, 14)] [] _) (?_ : SdS X 51 [(0, 14)] [] _)
        · refine su_aload_n hC 14 dX4_readLine_56 rfl (by decide) (by decide) (?_ : SdS X 57 [(0, 14)] [14] _)
          refine su_ldcS hC (tx0 := "good") (i := 4) rfl (by decide) (by decide) dX4_readLine_57 (?_ : SdS X 59 [(0, 14)] [5, 14] _)
          refine su_inv0 (τ := []) (τr := [5]) (ci := 4) (q := (RX4, TX4, 15)) hC WG (M_X4_isWord _) rfl rfl rfl rfl  rfl rfl wl_2_201 wl_2_203 wp_4 wl_1_4 wl_2_204 hd_X4_isWord (by rw [e3]; decide) (by decide) dX4_readLine_59 (?_ : SdS X 62 [(0, 14)] [0] _)
          refine su_if_eq (tgt := 70) hC dX4_readLine_62 rfl (?_ : SdS X 70 [(0, 14)] [] _) (?_ : SdS X 65 [(0, 14)] [] _)
          · refine su_aload_n hC 14 dX4_readLine_70 rfl (by decide) (by decide) (?_ : SdS X 71 [(0, 14)] [14] _)
            refine su_ldcS hC (tx0 := "order") (i := 5) rfl (by decide) (by decide) dX4_readLine_71 (?_ : SdS X 73 [(0, 14)] [5, 14] _)
            refine su_inv0 (τ := []) (τr := [5]) (ci := 4) (q := (RX4, TX4, 15)) hC WG (M_X4_isWord _) rfl rfl rfl rfl  rfl rfl wl_2_201 wl_2_203 wp_4 wl_1_4 wl_2_204 hd_X4_isWord (by rw [e3]; decide) (by decide) dX4_readLine_73 (?_ : SdS X 76 [(0, 14)] [0] _)
            refine su_if_eq (tgt := 86) hC dX4_readLine_76 rfl (?_ : SdS X 86 [(0, 14)] [] _) (?_ : SdS X 79 [(0, 14)] [] _)
            · refine su_aload_n hC 14 dX4_readLine_86 rfl (by decide) (by decide) (?_ : SdS X 87 [(0, 14)] [14] _)
              refine su_iconst hC dX4_readLine_87 ⟨by decide, by decide⟩ (?_ : SdS X 88 [(0, 14)] [0, 14] _)
              refine su_aload_n hC 14 dX4_readLine_88 rfl (by decide) (by decide) (?_ : SdS X 89 [(0, 14)] [14, 0, 14] _)
              refine su_getF hC (ci := 4) (j := 3) (C := RX4) (T := TX4) (N := 15) rfl rfl (by decide) in_X4 wl_1_156 rfl dX4_readLine_89 (?_ : SdS X 92 [(0, 14)] [0, 0, 14] _)
              refine su_inv0 (τ := []) (τr := [0, 0]) (ci := 4) (q := (RX4, TX4, 15)) hC WG (M_X4_flaw _) rfl rfl rfl rfl  rfl rfl wl_3_17 wl_3_19 wp_6 wl_1_4 wl_3_20 hd_X4_flaw (by rw [e3]; decide) (by decide) dX4_readLine_92 (?_ : SdS X 95 [(0, 14)] [0] _)
              exact SdS.weak (by decide) (S_95)
            · refine su_aload_n hC 14 dX4_readLine_79 rfl (by decide) (by decide) (?_ : SdS X 80 [(0, 14)] [14] _)
              refine su_inv0 (τ := []) (τr := []) (ci := 4) (q := (RX4, TX4, 15)) hC WG (M_X4_orderLine _) rfl rfl rfl rfl  rfl rfl wl_3_103 wl_3_105 wp_21 wl_1_4 wl_3_106 hd_X4_orderLine (by rw [e3]; decide) (by decide) dX4_readLine_80 (?_ : SdS X 83 [(0, 14)] [0] _)
              refine su_goto (tgt := 95) hC dX4_readLine_83 rfl (?_ : SdS X 95 [(0, 14)] [0] _)
              exact SdS.weak (by decide) (S_95)
          · refine su_aload_n hC 14 dX4_readLine_65 rfl (by decide) (by decide) (?_ : SdS X 66 [(0, 14)] [14] _)
            refine su_inv0 (τ := []) (τr := []) (ci := 4) (q := (RX4, TX4, 15)) hC WG (M_X4_goodLine _) rfl rfl rfl rfl  rfl rfl wl_3_82 wl_3_84 wp_18 wl_1_4 wl_3_85 hd_X4_goodLine (by rw [e3]; decide) (by decide) dX4_readLine_66 (?_ : SdS X 69 [(0, 14)] [0] _)
            exact su_zreturn hC hT dX4_readLine_69
        · refine su_aload_n hC 14 dX4_readLine_51 rfl (by decide) (by decide) (?_ : SdS X 52 [(0, 14)] [14] _)
          refine su_inv0 (τ := []) (τr := []) (ci := 4) (q := (RX4, TX4, 15)) hC WG (M_X4_storeLine _) rfl rfl rfl rfl  rfl rfl wl_3_76 wl_3_78 wp_17 wl_1_4 wl_3_79 hd_X4_storeLine (by rw [e3]; decide) (by decide) dX4_readLine_52 (?_ : SdS X 55 [(0, 14)] [0] _)
          exact su_zreturn hC hT dX4_readLine_55
      · refine su_aload_n hC 14 dX4_readLine_37 rfl (by decide) (by decide) (?_ : SdS X 38 [(0, 14)] [14] _)
        refine su_inv0 (τ := []) (τr := []) (ci := 4) (q := (RX4, TX4, 15)) hC WG (M_X4_cartLine _) rfl rfl rfl rfl  rfl rfl wl_3_71 wl_3_73 wp_16 wl_1_4 wl_3_74 hd_X4_cartLine (by rw [e3]; decide) (by decide) dX4_readLine_38 (?_ : SdS X 41 [(0, 14)] [0] _)
        exact su_zreturn hC hT dX4_readLine_41
    · refine su_aload_n hC 14 dX4_readLine_23 rfl (by decide) (by decide) (?_ : SdS X 24 [(0, 14)] [14] _)
      refine su_inv0 (τ := []) (τr := []) (ci := 4) (q := (RX4, TX4, 15)) hC WG (M_X4_gateLine _) rfl rfl rfl rfl  rfl rfl wl_3_26 wl_3_28 wp_8 wl_1_4 wl_3_29 hd_X4_gateLine (by rw [e3]; decide) (by decide) dX4_readLine_24 (?_ : SdS X 27 [(0, 14)] [0] _)
      exact su_zreturn hC hT dX4_readLine_27
  · refine su_aload_n hC 14 dX4_readLine_9 rfl (by decide) (by decide) (?_ : SdS X 10 [(0, 14)] [14] _)
    refine su_inv0 (τ := []) (τr := []) (ci := 4) (q := (RX4, TX4, 15)) hC WG (M_X4_ringsLine _) rfl rfl rfl rfl  rfl rfl wl_3_13 wl_3_15 wp_5 wl_1_4 wl_3_16 hd_X4_ringsLine (by rw [e3]; decide) (by decide) dX4_readLine_10 (?_ : SdS X 13 [(0, 14)] [0] _)
    exact su_zreturn hC hT dX4_readLine_13
theorem wl_2_183 : Cond.methodLink RX4 31 yX1_empty ∈ WALL := tb2 (List.mem_of_getElem? (i := 183) rfl) rfl
theorem wl_2_184 : Cond.instanceMethod yX1_empty ∈ WALL := tb2 (List.mem_of_getElem? (i := 184) rfl) rfl
theorem wl_2_185 : Cond.selects RX1 yX1_empty yX1_empty ∈ WALL := tb2 (List.mem_of_getElem? (i := 185) rfl) rfl
theorem wl_2_186 : Cond.code yX1_empty cX1_empty 2 none ∈ WALL := tb2 (List.mem_of_getElem? (i := 186) rfl) rfl
theorem wl_2_196 : Cond.methodLink RX4 53 yX4_readLine ∈ WALL := tb2 (List.mem_of_getElem? (i := 196) rfl) rfl
theorem wl_2_198 : Cond.instanceMethod yX4_readLine ∈ WALL := tb2 (List.mem_of_getElem? (i := 198) rfl) rfl
theorem wp_3 : Cond.selects RX4 yX4_readLine yX4_readLine ∈ WALL := tbS (List.mem_of_getElem? (i := 3) rfl)
theorem wl_2_199 : Cond.code yX4_readLine cX4_readLine 1 (some .boolean) ∈ WALL := tb2 (List.mem_of_getElem? (i := 199) rfl) rfl
theorem hd_X4_read : yX4_read.cls ≠ "java/lang/invoke/MethodHandle" ∧ yX4_read.cls ≠ "java/lang/invoke/VarHandle" ∧ (parseMethodDescriptor yX4_read.desc).map (fun d => d.parameters.length) = some 2 := by decide +kernel
set_option maxRecDepth 100000 in
set_option maxHeartbeats 4000000 in
theorem M_X4_read (l : Launch) : MtS l yX4_read (Cond.code yX4_read cX4_read 4 (some .int) :: WALL) { frames := 9, cells := 0, slots := 0, locals := 195 } [14, 11, 0] (some 0) T_X4_read := by
  refine MtS.mk (B := E_X4_read) (by decide +kernel) (by decide) (fun _ _ _ hh => hh) ?_
  intro X Q e1 e2 e3 hC hN hT
  subst e1
  have hC : CF X cX4_read RX4 WALL := hC
  have S_140 : SdS X 140 [(0, 14), (1, 11), (2, 0), (3, 0)] [] (B_X4_read_140 Q) := by
    unfold B_X4_read_140
    refine su_aload_n hC 14 dX4_read_140 rfl (by decide) (by decide) (?_ : SdS X 141 [(0, 14), (1, 11), (2, 0), (3, 0)] [14] _)
    refine su_getF hC (ci := 4) (j := 9) (C := RX4) (T := TX4) (N := 15) rfl rfl (by decide) in_X4 wl_1_162 rfl dX4_read_141 (?_ : SdS X 144 [(0, 14), (1, 11), (2, 0), (3, 0)] [0] _)
    exact su_ireturn hC hT dX4_read_144
  have S_102 : ∀ (k60 : xK), SdS X 60 [(0, 14), (1, 11), (2, 0), (3, 0)] [] k60 → SdS X 102 [(0, 14), (1, 11), (2, 0), (3, 0)] [] (B_X4_read_102 Q k60) := by
    intro k60 h60
    unfold B_X4_read_102
    refine su_aload_n hC 14 dX4_read_102 rfl (by decide) (by decide) (?_ : SdS X 103 [(0, 14), (1, 11), (2, 0), (3, 0)] [14] _)
    refine su_getF hC (ci := 4) (j := 9) (C := RX4) (T := TX4) (N := 15) rfl rfl (by decide) in_X4 wl_1_162 rfl dX4_read_103 (?_ : SdS X 106 [(0, 14), (1, 11), (2, 0), (3, 0)] [0] _)
    exact su_ireturn hC hT dX4_read_106
  have S_60 : SdS X 60 [(0, 14), (1, 11), (2, 0), (3, 0)] [] (L_X4_read_60 Q) := by
    unfold L_X4_read_60
    refine SdS.loop (fun k60 h60 => ?_)
    refine su_iload_n hC dX4_read_60 rfl (by decide) (?_ : SdS X 61 [(0, 14), (1, 11), (2, 0), (3, 0)] [0] _)
    refine su_sipush hC dX4_read_61 (by decide) (?_ : SdS X 64 [(0, 14), (1, 11), (2, 0), (3, 0)] [0, 0] _)
    refine su_icmp_gt (tgt := 140) hC dX4_read_64 rfl (?_ : SdS X 140 [(0, 14), (1, 11), (2, 0), (3, 0)] [] _) (?_ : SdS X 67 [(0, 14), (1, 11), (2, 0), (3, 0)] [] _)
    · exact SdS.weak (by decide) (S_140)
    · refine su_aload_n hC 14 dX4_read_67 rfl (by decide) (by decide) (?_ : SdS X 68 [(0, 14), (1, 11), (2, 0), (3, 0)] [14] _)
      refine su_inv0 (τ := []) (τr := []) (ci := 4) (q := (RX4, TX4, 15)) hC WG (M_X4_readLine _) rfl rfl rfl rfl  rfl rfl wl_2_196 wl_2_198 wp_3 wl_1_4 wl_2_199 hd_X4_readLine (by rw [e3]; decide) (by decide) dX4_read_68 (?_ : SdS X 71 [(0, 14), (1, 11), (2, 0), (3, 0)] [0] _)
      refine su_if_eq (tgt := 140) hC dX4_read_71 rfl (?_ : SdS X 140 [(0, 14), (1, 11), (2, 0), (3, 0)] [] _) (?_ : SdS X 74 [(0, 14), (1, 11), (2, 0), (3, 0)] [] _)
      · exact SdS.weak (by decide) (S_140)
      · refine su_aload_n hC 14 dX4_read_74 rfl (by decide) (by decide) (?_ : SdS X 75 [(0, 14), (1, 11), (2, 0), (3, 0)] [14] _)
        refine su_getF hC (ci := 4) (j := 5) (C := RX4) (T := TX4) (N := 15) rfl rfl (by decide) in_X4 wl_1_158 rfl dX4_read_75 (?_ : SdS X 78 [(0, 14), (1, 11), (2, 0), (3, 0)] [0] _)
        refine su_if_ne (tgt := 107) hC dX4_read_78 rfl (?_ : SdS X 107 [(0, 14), (1, 11), (2, 0), (3, 0)] [] _) (?_ : SdS X 81 [(0, 14), (1, 11), (2, 0), (3, 0)] [] _)
        · refine su_aload_n hC 14 dX4_read_107 rfl (by decide) (by decide) (?_ : SdS X 108 [(0, 14), (1, 11), (2, 0), (3, 0)] [14] _)
          refine su_getF hC (ci := 4) (j := 5) (C := RX4) (T := TX4) (N := 15) rfl rfl (by decide) in_X4 wl_1_158 rfl dX4_read_108 (?_ : SdS X 111 [(0, 14), (1, 11), (2, 0), (3, 0)] [0] _)
          refine su_iconst hC dX4_read_111 ⟨by decide, by decide⟩ (?_ : SdS X 112 [(0, 14), (1, 11), (2, 0), (3, 0)] [0, 0] _)
          refine su_icmp_eq (tgt := 130) hC dX4_read_112 rfl (?_ : SdS X 130 [(0, 14), (1, 11), (2, 0), (3, 0)] [] _) (?_ : SdS X 115 [(0, 14), (1, 11), (2, 0), (3, 0)] [] _)
          · refine su_aload_n hC 14 dX4_read_130 rfl (by decide) (by decide) (?_ : SdS X 131 [(0, 14), (1, 11), (2, 0), (3, 0)] [14] _)
            refine su_inv0v (τ := []) (τr := []) (ci := 4) (q := (RX4, TX4, 15)) hC WG (M_X4_step _) rfl rfl rfl rfl  rfl rfl wl_2_190 wl_2_192 wp_2 wl_1_4 wl_2_193 hd_X4_step (by rw [e3]; decide) (by decide) dX4_read_131 (?_ : SdS X 134 [(0, 14), (1, 11), (2, 0), (3, 0)] [] _)
            refine su_iinc (Γ' := [(0, 14), (1, 11), (2, 0), (3, 0)]) hC dX4_read_134 (by decide) (by rw [e2]; decide) (by decide) (?_ : SdS X 137 [(0, 14), (1, 11), (2, 0), (3, 0)] [] _)
            refine su_goto (tgt := 60) hC dX4_read_137 rfl (?_ : SdS X 60 [(0, 14), (1, 11), (2, 0), (3, 0)] [] _)
            exact SdS.weak (by decide) h60
          · refine su_aload_n hC 14 dX4_read_115 rfl (by decide) (by decide) (?_ : SdS X 116 [(0, 14), (1, 11), (2, 0), (3, 0)] [14] _)
            refine su_iconst hC dX4_read_116 ⟨by decide, by decide⟩ (?_ : SdS X 117 [(0, 14), (1, 11), (2, 0), (3, 0)] [0, 14] _)
            refine su_aload_n hC 14 dX4_read_117 rfl (by decide) (by decide) (?_ : SdS X 118 [(0, 14), (1, 11), (2, 0), (3, 0)] [14, 0, 14] _)
            refine su_getF hC (ci := 4) (j := 3) (C := RX4) (T := TX4) (N := 15) rfl rfl (by decide) in_X4 wl_1_156 rfl dX4_read_118 (?_ : SdS X 121 [(0, 14), (1, 11), (2, 0), (3, 0)] [0, 0, 14] _)
            refine su_inv0 (τ := []) (τr := [0, 0]) (ci := 4) (q := (RX4, TX4, 15)) hC WG (M_X4_flaw _) rfl rfl rfl rfl  rfl rfl wl_3_17 wl_3_19 wp_6 wl_1_4 wl_3_20 hd_X4_flaw (by rw [e3]; decide) (by decide) dX4_read_121 (?_ : SdS X 124 [(0, 14), (1, 11), (2, 0), (3, 0)] [0] _)
            refine su_pop hC (by decide) dX4_read_124 (?_ : SdS X 125 [(0, 14), (1, 11), (2, 0), (3, 0)] [] _)
            refine su_aload_n hC 14 dX4_read_125 rfl (by decide) (by decide) (?_ : SdS X 126 [(0, 14), (1, 11), (2, 0), (3, 0)] [14] _)
            refine su_getF hC (ci := 4) (j := 9) (C := RX4) (T := TX4) (N := 15) rfl rfl (by decide) in_X4 wl_1_162 rfl dX4_read_126 (?_ : SdS X 129 [(0, 14), (1, 11), (2, 0), (3, 0)] [0] _)
            exact su_ireturn hC hT dX4_read_129
        · refine su_aload_n hC 14 dX4_read_81 rfl (by decide) (by decide) (?_ : SdS X 82 [(0, 14), (1, 11), (2, 0), (3, 0)] [14] _)
          refine su_getR hC (ci := 4) (j := 10) (C := RX4) (T := TX4) (N := 15) rfl rfl (by decide) in_X4 wl_1_163 rfl dX4_read_82 (?_ : SdS X 85 [(0, 14), (1, 11), (2, 0), (3, 0)] [11] _)
          refine su_getF hC (ci := 1) (j := 0) (C := RX1) (T := TX1) (N := 12) rfl rfl (by decide) in_X1 wl_1_78 rfl dX4_read_85 (?_ : SdS X 88 [(0, 14), (1, 11), (2, 0), (3, 0)] [0] _)
          refine su_if_ne (tgt := 102) hC dX4_read_88 rfl (?_ : SdS X 102 [(0, 14), (1, 11), (2, 0), (3, 0)] [] _) (?_ : SdS X 91 [(0, 14), (1, 11), (2, 0), (3, 0)] [] _)
          · exact SdS.weak (by decide) (S_102 k60 h60)
          · refine su_aload_n hC 14 dX4_read_91 rfl (by decide) (by decide) (?_ : SdS X 92 [(0, 14), (1, 11), (2, 0), (3, 0)] [14] _)
            refine su_bipush hC dX4_read_92 (by decide) (?_ : SdS X 94 [(0, 14), (1, 11), (2, 0), (3, 0)] [0, 14] _)
            refine su_aload_n hC 14 dX4_read_94 rfl (by decide) (by decide) (?_ : SdS X 95 [(0, 14), (1, 11), (2, 0), (3, 0)] [14, 0, 14] _)
            refine su_getF hC (ci := 4) (j := 3) (C := RX4) (T := TX4) (N := 15) rfl rfl (by decide) in_X4 wl_1_156 rfl dX4_read_95 (?_ : SdS X 98 [(0, 14), (1, 11), (2, 0), (3, 0)] [0, 0, 14] _)
            refine su_inv0 (τ := []) (τr := [0, 0]) (ci := 4) (q := (RX4, TX4, 15)) hC WG (M_X4_flaw _) rfl rfl rfl rfl  rfl rfl wl_3_17 wl_3_19 wp_6 wl_1_4 wl_3_20 hd_X4_flaw (by rw [e3]; decide) (by decide) dX4_read_98 (?_ : SdS X 101 [(0, 14), (1, 11), (2, 0), (3, 0)] [0] _)
            refine su_pop hC (by decide) dX4_read_101 (?_ : SdS X 102 [(0, 14), (1, 11), (2, 0), (3, 0)] [] _)
            exact SdS.weak (by decide) (S_102 k60 h60)
  have S_31 : SdS X 31 [(0, 14), (1, 11), (2, 0)] [0, 14] (B_X4_read_31 Q) := by
    unfold B_X4_read_31
    refine su_putF hC (ci := 4) (j := 2) (C := RX4) (T := TX4) (N := 15) tyX4 tyX4_ok nmX4 rfl rfl (by decide) in_X4 rfl rfl wl_1_155 rfl dX4_read_31 (?_ : SdS X 34 [(0, 14), (1, 11), (2, 0)] [] _)
    refine su_aload_n hC 14 dX4_read_34 rfl (by decide) (by decide) (?_ : SdS X 35 [(0, 14), (1, 11), (2, 0)] [14] _)
    refine su_iconst hC dX4_read_35 ⟨by decide, by decide⟩ (?_ : SdS X 36 [(0, 14), (1, 11), (2, 0)] [0, 14] _)
    refine su_putF hC (ci := 4) (j := 4) (C := RX4) (T := TX4) (N := 15) tyX4 tyX4_ok nmX4 rfl rfl (by decide) in_X4 rfl rfl wl_1_157 rfl dX4_read_36 (?_ : SdS X 39 [(0, 14), (1, 11), (2, 0)] [] _)
    refine su_aload_n hC 14 dX4_read_39 rfl (by decide) (by decide) (?_ : SdS X 40 [(0, 14), (1, 11), (2, 0)] [14] _)
    refine su_iconst hC dX4_read_40 ⟨by decide, by decide⟩ (?_ : SdS X 41 [(0, 14), (1, 11), (2, 0)] [0, 14] _)
    refine su_putF hC (ci := 4) (j := 13) (C := RX4) (T := TX4) (N := 15) tyX4 tyX4_ok nmX4 rfl rfl (by decide) in_X4 rfl rfl wl_1_166 rfl dX4_read_41 (?_ : SdS X 44 [(0, 14), (1, 11), (2, 0)] [] _)
    refine su_aload_n hC 14 dX4_read_44 rfl (by decide) (by decide) (?_ : SdS X 45 [(0, 14), (1, 11), (2, 0)] [14] _)
    refine su_iconst hC dX4_read_45 ⟨by decide, by decide⟩ (?_ : SdS X 46 [(0, 14), (1, 11), (2, 0)] [0, 14] _)
    refine su_putF hC (ci := 4) (j := 9) (C := RX4) (T := TX4) (N := 15) tyX4 tyX4_ok nmX4 rfl rfl (by decide) in_X4 rfl rfl wl_1_162 rfl dX4_read_46 (?_ : SdS X 49 [(0, 14), (1, 11), (2, 0)] [] _)
    refine su_aload_n hC 14 dX4_read_49 rfl (by decide) (by decide) (?_ : SdS X 50 [(0, 14), (1, 11), (2, 0)] [14] _)
    refine su_iconst hC dX4_read_50 ⟨by decide, by decide⟩ (?_ : SdS X 51 [(0, 14), (1, 11), (2, 0)] [0, 14] _)
    refine su_putF hC (ci := 4) (j := 0) (C := RX4) (T := TX4) (N := 15) tyX4 tyX4_ok nmX4 rfl rfl (by decide) in_X4 rfl rfl wl_1_152 rfl dX4_read_51 (?_ : SdS X 54 [(0, 14), (1, 11), (2, 0)] [] _)
    refine su_aload_n hC 14 dX4_read_54 rfl (by decide) (by decide) (?_ : SdS X 55 [(0, 14), (1, 11), (2, 0)] [14] _)
    refine su_inv0v (τ := []) (τr := []) (ci := 4) (q := (RX4, TX4, 15)) hC WG (M_X4_step _) rfl rfl rfl rfl  rfl rfl wl_2_190 wl_2_192 wp_2 wl_1_4 wl_2_193 hd_X4_step (by rw [e3]; decide) (by decide) dX4_read_55 (?_ : SdS X 58 [(0, 14), (1, 11), (2, 0)] [] _)
    refine su_iconst hC dX4_read_58 ⟨by decide, by decide⟩ (?_ : SdS X 59 [(0, 14), (1, 11), (2, 0)] [0] _)
    refine su_istore_n (Γ' := [(0, 14), (1, 11), (2, 0), (3, 0)]) hC dX4_read_59 rfl (by rw [e2]; decide) (by decide) (?_ : SdS X 60 [(0, 14), (1, 11), (2, 0), (3, 0)] [] _)
    exact SdS.weak (by decide) (S_60)
  refine (?_ : SdS X 0 [(0, 14), (1, 11), (2, 0)] [] (E_X4_read Q))
  unfold E_X4_read
  refine su_aload_n hC 14 dX4_read_0 rfl (by decide) (by decide) (?_ : SdS X 1 [(0, 14), (1, 11), (2, 0)] [14] _)
  refine su_aload_n hC 11 dX4_read_1 rfl (by decide) (by decide) (?_ : SdS X 2 [(0, 14), (1, 11), (2, 0)] [11, 14] _)
  refine su_putR hC (ci := 4) (j := 10) (C := RX4) (T := TX4) (N := 15) tyX4 tyX4_ok nmX4 rfl rfl (by decide) in_X4 rfl rfl wl_1_163 rfl dX4_read_2 (?_ : SdS X 5 [(0, 14), (1, 11), (2, 0)] [] _)
  refine su_aload_n hC 14 dX4_read_5 rfl (by decide) (by decide) (?_ : SdS X 6 [(0, 14), (1, 11), (2, 0)] [14] _)
  refine su_getR hC (ci := 4) (j := 10) (C := RX4) (T := TX4) (N := 15) rfl rfl (by decide) in_X4 wl_1_163 rfl dX4_read_6 (?_ : SdS X 9 [(0, 14), (1, 11), (2, 0)] [11] _)
  refine su_inv0v (τ := []) (τr := []) (ci := 1) (q := (RX1, TX1, 12)) hC WG (M_X1_empty _) rfl rfl rfl rfl  rfl rfl wl_2_183 wl_2_184 wl_2_185 wl_1_2 wl_2_186 hd_X1_empty (by rw [e3]; decide) (by decide) dX4_read_9 (?_ : SdS X 12 [(0, 14), (1, 11), (2, 0)] [] _)
  refine su_aload_n hC 14 dX4_read_12 rfl (by decide) (by decide) (?_ : SdS X 13 [(0, 14), (1, 11), (2, 0)] [14] _)
  refine su_iload_n hC dX4_read_13 rfl (by decide) (?_ : SdS X 14 [(0, 14), (1, 11), (2, 0)] [0, 14] _)
  refine su_aload_n hC 14 dX4_read_14 rfl (by decide) (by decide) (?_ : SdS X 15 [(0, 14), (1, 11), (2, 0)] [14, 0, 14] _)
  refine su_getR hC (ci := 4) (j := 1) (C := RX4) (T := TX4) (N := 15) rfl rfl (by decide) in_X4 wl_1_154 rfl dX4_read_15 (?_ : SdS X 18 [(0, 14), (1, 11), (2, 0)] [100, 0, 14] _)
  refine su_alen (e := 0) hC (List.mem_of_getElem? (i := 0) rfl) dX4_read_18 (?_ : SdS X 19 [(0, 14), (1, 11), (2, 0)] [0, 0, 14] _)
  refine su_icmp_ge (tgt := 26) hC dX4_read_19 rfl (?_ : SdS X 26 [(0, 14), (1, 11), (2, 0)] [14] _) (?_ : SdS X 22 [(0, 14), (1, 11), (2, 0)] [14] _)
  · refine su_aload_n hC 14 dX4_read_26 rfl (by decide) (by decide) (?_ : SdS X 27 [(0, 14), (1, 11), (2, 0)] [14, 14] _)
    refine su_getR hC (ci := 4) (j := 1) (C := RX4) (T := TX4) (N := 15) rfl rfl (by decide) in_X4 wl_1_154 rfl dX4_read_27 (?_ : SdS X 30 [(0, 14), (1, 11), (2, 0)] [100, 14] _)
    refine su_alen (e := 0) hC (List.mem_of_getElem? (i := 0) rfl) dX4_read_30 (?_ : SdS X 31 [(0, 14), (1, 11), (2, 0)] [0, 14] _)
    exact SdS.weak (by decide) (S_31)
  · refine su_iload_n hC dX4_read_22 rfl (by decide) (?_ : SdS X 23 [(0, 14), (1, 11), (2, 0)] [0, 14] _)
    refine su_goto (tgt := 31) hC dX4_read_23 rfl (?_ : SdS X 31 [(0, 14), (1, 11), (2, 0)] [0, 14] _)
    exact SdS.weak (by decide) (S_31)
theorem hd_X5_shorten : yX5_shorten.cls ≠ "java/lang/invoke/MethodHandle" ∧ yX5_shorten.cls ≠ "java/lang/invoke/VarHandle" ∧ (parseMethodDescriptor yX5_shorten.desc).map (fun d => d.parameters.length) = some 4 := by decide +kernel
set_option maxRecDepth 100000 in
set_option maxHeartbeats 4000000 in
theorem M_X5_shorten (l : Launch) : MtS l yX5_shorten (Cond.code yX5_shorten cX5_shorten 4 (some .boolean) :: WALL) { frames := 0, cells := 0, slots := 0, locals := 0 } [100, 0, 0, 0] (some 0) T_X5_shorten := by
  refine MtS.mk (B := E_X5_shorten) (by decide +kernel) (by decide) (fun _ _ _ hh => hh) ?_
  intro X Q e1 e2 e3 hC hN hT
  subst e1
  have hC : CF X cX5_shorten RX5 WALL := hC
  refine (?_ : SdS X 0 [(0, 100), (1, 0), (2, 0), (3, 0)] [] (E_X5_shorten Q))
  unfold E_X5_shorten
  refine su_aload_n hC 100 dX5_shorten_0 rfl (by decide) (by decide) (?_ : SdS X 1 [(0, 100), (1, 0), (2, 0), (3, 0)] [100] _)
  refine su_iload_n hC dX5_shorten_1 rfl (by decide) (?_ : SdS X 2 [(0, 100), (1, 0), (2, 0), (3, 0)] [0, 100] _)
  refine su_iaload hC dX5_shorten_2 (?_ : SdS X 3 [(0, 100), (1, 0), (2, 0), (3, 0)] [0] _)
  refine su_iload_n hC dX5_shorten_3 rfl (by decide) (?_ : SdS X 4 [(0, 100), (1, 0), (2, 0), (3, 0)] [0, 0] _)
  refine su_iadd hC dX5_shorten_4 (?_ : SdS X 5 [(0, 100), (1, 0), (2, 0), (3, 0)] [0] _)
  refine su_aload_n hC 100 dX5_shorten_5 rfl (by decide) (by decide) (?_ : SdS X 6 [(0, 100), (1, 0), (2, 0), (3, 0)] [100, 0] _)
  refine su_iload_n hC dX5_shorten_6 rfl (by decide) (?_ : SdS X 7 [(0, 100), (1, 0), (2, 0), (3, 0)] [0, 100, 0] _)
  refine su_iaload hC dX5_shorten_7 (?_ : SdS X 8 [(0, 100), (1, 0), (2, 0), (3, 0)] [0, 0] _)
  refine su_icmp_lt (tgt := 13) hC dX5_shorten_8 rfl (?_ : SdS X 13 [(0, 100), (1, 0), (2, 0), (3, 0)] [] _) (?_ : SdS X 11 [(0, 100), (1, 0), (2, 0), (3, 0)] [] _)
  · refine su_aload_n hC 100 dX5_shorten_13 rfl (by decide) (by decide) (?_ : SdS X 14 [(0, 100), (1, 0), (2, 0), (3, 0)] [100] _)
    refine su_iload_n hC dX5_shorten_14 rfl (by decide) (?_ : SdS X 15 [(0, 100), (1, 0), (2, 0), (3, 0)] [0, 100] _)
    refine su_aload_n hC 100 dX5_shorten_15 rfl (by decide) (by decide) (?_ : SdS X 16 [(0, 100), (1, 0), (2, 0), (3, 0)] [100, 0, 100] _)
    refine su_iload_n hC dX5_shorten_16 rfl (by decide) (?_ : SdS X 17 [(0, 100), (1, 0), (2, 0), (3, 0)] [0, 100, 0, 100] _)
    refine su_iaload hC dX5_shorten_17 (?_ : SdS X 18 [(0, 100), (1, 0), (2, 0), (3, 0)] [0, 0, 100] _)
    refine su_iload_n hC dX5_shorten_18 rfl (by decide) (?_ : SdS X 19 [(0, 100), (1, 0), (2, 0), (3, 0)] [0, 0, 0, 100] _)
    refine su_iadd hC dX5_shorten_19 (?_ : SdS X 20 [(0, 100), (1, 0), (2, 0), (3, 0)] [0, 0, 100] _)
    refine su_iastore hC dX5_shorten_20 (?_ : SdS X 21 [(0, 100), (1, 0), (2, 0), (3, 0)] [] _)
    refine su_iconst hC dX5_shorten_21 ⟨by decide, by decide⟩ (?_ : SdS X 22 [(0, 100), (1, 0), (2, 0), (3, 0)] [0] _)
    exact su_zreturn hC hT dX5_shorten_22
  · refine su_iconst hC dX5_shorten_11 ⟨by decide, by decide⟩ (?_ : SdS X 12 [(0, 100), (1, 0), (2, 0), (3, 0)] [0] _)
    exact su_zreturn hC hT dX5_shorten_12
theorem wl_5_41 : Cond.methodLink RX5 70 yX5_shorten ∈ WALL := tb5 (List.mem_of_getElem? (i := 41) rfl) rfl
theorem wl_5_42 : Cond.static yX5_shorten ∈ WALL := tb5 (List.mem_of_getElem? (i := 42) rfl) rfl
theorem wl_1_9 : Cond.initialized RX5 ∈ WALL := tb1 (List.mem_of_getElem? (i := 9) rfl) rfl
theorem wl_5_43 : Cond.code yX5_shorten cX5_shorten 4 (some .boolean) ∈ WALL := tb5 (List.mem_of_getElem? (i := 43) rfl) rfl
theorem hd_X5_spreadRound : yX5_spreadRound.cls ≠ "java/lang/invoke/MethodHandle" ∧ yX5_spreadRound.cls ≠ "java/lang/invoke/VarHandle" ∧ (parseMethodDescriptor yX5_spreadRound.desc).map (fun d => d.parameters.length) = some 2 := by decide +kernel
set_option maxRecDepth 100000 in
set_option maxHeartbeats 4000000 in
theorem M_X5_spreadRound (l : Launch) : MtS l yX5_spreadRound (Cond.code yX5_spreadRound cX5_spreadRound 5 none :: WALL) { frames := 1, cells := 0, slots := 0, locals := 23 } [0, 100] none T_X5_spreadRound := by
  refine MtS.mk (B := E_X5_spreadRound) (by decide +kernel) (by decide) (fun _ _ _ hh => hh) ?_
  intro X Q e1 e2 e3 hC hN hT
  subst e1
  have hC : CF X cX5_spreadRound RX5 WALL := hC
  have S_2 : SdS X 2 [(0, 0), (1, 100), (2, 0)] [] (L_X5_spreadRound_2 Q) := by
    unfold L_X5_spreadRound_2
    refine SdS.loop (fun k2 h2 => ?_)
    refine su_iload_n hC dX5_spreadRound_2 rfl (by decide) (?_ : SdS X 3 [(0, 0), (1, 100), (2, 0)] [0] _)
    refine su_bipush hC dX5_spreadRound_3 (by decide) (?_ : SdS X 5 [(0, 0), (1, 100), (2, 0)] [0, 0] _)
    refine su_icmp_ge (tgt := 63) hC dX5_spreadRound_5 rfl (?_ : SdS X 63 [(0, 0), (1, 100), (2, 0)] [] _) (?_ : SdS X 8 [(0, 0), (1, 100), (2, 0)] [] _)
    · exact su_return hC hT dX5_spreadRound_63
    · refine su_iload_n hC dX5_spreadRound_8 rfl (by decide) (?_ : SdS X 9 [(0, 0), (1, 100), (2, 0)] [0] _)
      refine su_bipush hC dX5_spreadRound_9 (by decide) (?_ : SdS X 11 [(0, 0), (1, 100), (2, 0)] [0, 0] _)
      refine su_irem hC dX5_spreadRound_11 (?_ : SdS X 12 [(0, 0), (1, 100), (2, 0)] [0] _)
      refine su_istore_n (Γ' := [(0, 0), (1, 100), (2, 0), (3, 0)]) hC dX5_spreadRound_12 rfl (by rw [e2]; decide) (by decide) (?_ : SdS X 13 [(0, 0), (1, 100), (2, 0), (3, 0)] [] _)
      refine su_iload_n hC dX5_spreadRound_13 rfl (by decide) (?_ : SdS X 14 [(0, 0), (1, 100), (2, 0), (3, 0)] [0] _)
      refine su_iconst hC dX5_spreadRound_14 ⟨by decide, by decide⟩ (?_ : SdS X 15 [(0, 0), (1, 100), (2, 0), (3, 0)] [0, 0] _)
      refine su_iadd hC dX5_spreadRound_15 (?_ : SdS X 16 [(0, 0), (1, 100), (2, 0), (3, 0)] [0] _)
      refine su_bipush hC dX5_spreadRound_16 (by decide) (?_ : SdS X 18 [(0, 0), (1, 100), (2, 0), (3, 0)] [0, 0] _)
      refine su_irem hC dX5_spreadRound_18 (?_ : SdS X 19 [(0, 0), (1, 100), (2, 0), (3, 0)] [0] _)
      refine su_istore (Γ' := [(0, 0), (1, 100), (2, 0), (3, 0), (4, 0)]) hC dX5_spreadRound_19 (by rw [e2]; decide) (by decide) (?_ : SdS X 21 [(0, 0), (1, 100), (2, 0), (3, 0), (4, 0)] [] _)
      refine su_aload_n hC 100 dX5_spreadRound_21 rfl (by decide) (by decide) (?_ : SdS X 22 [(0, 0), (1, 100), (2, 0), (3, 0), (4, 0)] [100] _)
      refine su_iload_n hC dX5_spreadRound_22 rfl (by decide) (?_ : SdS X 23 [(0, 0), (1, 100), (2, 0), (3, 0), (4, 0)] [0, 100] _)
      refine su_iload_n hC dX5_spreadRound_23 rfl (by decide) (?_ : SdS X 24 [(0, 0), (1, 100), (2, 0), (3, 0), (4, 0)] [0, 0, 100] _)
      refine su_iadd hC dX5_spreadRound_24 (?_ : SdS X 25 [(0, 0), (1, 100), (2, 0), (3, 0), (4, 0)] [0, 100] _)
      refine su_iload_n hC dX5_spreadRound_25 rfl (by decide) (?_ : SdS X 26 [(0, 0), (1, 100), (2, 0), (3, 0), (4, 0)] [0, 0, 100] _)
      refine su_iload hC dX5_spreadRound_26 (by decide) (?_ : SdS X 28 [(0, 0), (1, 100), (2, 0), (3, 0), (4, 0)] [0, 0, 0, 100] _)
      refine su_iadd hC dX5_spreadRound_28 (?_ : SdS X 29 [(0, 0), (1, 100), (2, 0), (3, 0), (4, 0)] [0, 0, 100] _)
      refine su_iconst hC dX5_spreadRound_29 ⟨by decide, by decide⟩ (?_ : SdS X 30 [(0, 0), (1, 100), (2, 0), (3, 0), (4, 0)] [0, 0, 0, 100] _)
      refine su_invs (τ := []) (τs := [100, 0, 0, 0]) hC false "" WG (M_X5_shorten _) rfl rfl rfl rfl wl_5_41 wl_5_42 wl_1_9 wl_5_43 hd_X5_shorten (by rw [e3]; decide) (by decide) dX5_spreadRound_30 (?_ : SdS X 33 [(0, 0), (1, 100), (2, 0), (3, 0), (4, 0)] [0] _)
      refine su_pop hC (by decide) dX5_spreadRound_33 (?_ : SdS X 34 [(0, 0), (1, 100), (2, 0), (3, 0), (4, 0)] [] _)
      refine su_aload_n hC 100 dX5_spreadRound_34 rfl (by decide) (by decide) (?_ : SdS X 35 [(0, 0), (1, 100), (2, 0), (3, 0), (4, 0)] [100] _)
      refine su_iload_n hC dX5_spreadRound_35 rfl (by decide) (?_ : SdS X 36 [(0, 0), (1, 100), (2, 0), (3, 0), (4, 0)] [0, 100] _)
      refine su_bipush hC dX5_spreadRound_36 (by decide) (?_ : SdS X 38 [(0, 0), (1, 100), (2, 0), (3, 0), (4, 0)] [0, 0, 100] _)
      refine su_iadd hC dX5_spreadRound_38 (?_ : SdS X 39 [(0, 0), (1, 100), (2, 0), (3, 0), (4, 0)] [0, 100] _)
      refine su_iconst hC dX5_spreadRound_39 ⟨by decide, by decide⟩ (?_ : SdS X 40 [(0, 0), (1, 100), (2, 0), (3, 0), (4, 0)] [0, 0, 100] _)
      refine su_isub hC dX5_spreadRound_40 (?_ : SdS X 41 [(0, 0), (1, 100), (2, 0), (3, 0), (4, 0)] [0, 100] _)
      refine su_iload_n hC dX5_spreadRound_41 rfl (by decide) (?_ : SdS X 42 [(0, 0), (1, 100), (2, 0), (3, 0), (4, 0)] [0, 0, 100] _)
      refine su_isub hC dX5_spreadRound_42 (?_ : SdS X 43 [(0, 0), (1, 100), (2, 0), (3, 0), (4, 0)] [0, 100] _)
      refine su_iload_n hC dX5_spreadRound_43 rfl (by decide) (?_ : SdS X 44 [(0, 0), (1, 100), (2, 0), (3, 0), (4, 0)] [0, 0, 100] _)
      refine su_bipush hC dX5_spreadRound_44 (by decide) (?_ : SdS X 46 [(0, 0), (1, 100), (2, 0), (3, 0), (4, 0)] [0, 0, 0, 100] _)
      refine su_iadd hC dX5_spreadRound_46 (?_ : SdS X 47 [(0, 0), (1, 100), (2, 0), (3, 0), (4, 0)] [0, 0, 100] _)
      refine su_iconst hC dX5_spreadRound_47 ⟨by decide, by decide⟩ (?_ : SdS X 48 [(0, 0), (1, 100), (2, 0), (3, 0), (4, 0)] [0, 0, 0, 100] _)
      refine su_isub hC dX5_spreadRound_48 (?_ : SdS X 49 [(0, 0), (1, 100), (2, 0), (3, 0), (4, 0)] [0, 0, 100] _)
      refine su_iload hC dX5_spreadRound_49 (by decide) (?_ : SdS X 51 [(0, 0), (1, 100), (2, 0), (3, 0), (4, 0)] [0, 0, 0, 100] _)
      refine su_isub hC dX5_spreadRound_51 (?_ : SdS X 52 [(0, 0), (1, 100), (2, 0), (3, 0), (4, 0)] [0, 0, 100] _)
      refine su_iconst hC dX5_spreadRound_52 ⟨by decide, by decide⟩ (?_ : SdS X 53 [(0, 0), (1, 100), (2, 0), (3, 0), (4, 0)] [0, 0, 0, 100] _)
      refine su_invs (τ := []) (τs := [100, 0, 0, 0]) hC false "" WG (M_X5_shorten _) rfl rfl rfl rfl wl_5_41 wl_5_42 wl_1_9 wl_5_43 hd_X5_shorten (by rw [e3]; decide) (by decide) dX5_spreadRound_53 (?_ : SdS X 56 [(0, 0), (1, 100), (2, 0), (3, 0), (4, 0)] [0] _)
      refine su_pop hC (by decide) dX5_spreadRound_56 (?_ : SdS X 57 [(0, 0), (1, 100), (2, 0), (3, 0), (4, 0)] [] _)
      refine su_iinc (Γ' := [(0, 0), (1, 100), (2, 0), (3, 0), (4, 0)]) hC dX5_spreadRound_57 (by decide) (by rw [e2]; decide) (by decide) (?_ : SdS X 60 [(0, 0), (1, 100), (2, 0), (3, 0), (4, 0)] [] _)
      refine su_goto (tgt := 2) hC dX5_spreadRound_60 rfl (?_ : SdS X 2 [(0, 0), (1, 100), (2, 0), (3, 0), (4, 0)] [] _)
      exact SdS.weak (by decide) h2
  refine (?_ : SdS X 0 [(0, 0), (1, 100)] [] (E_X5_spreadRound Q))
  unfold E_X5_spreadRound
  refine su_iconst hC dX5_spreadRound_0 ⟨by decide, by decide⟩ (?_ : SdS X 1 [(0, 0), (1, 100)] [0] _)
  refine su_istore_n (Γ' := [(0, 0), (1, 100), (2, 0)]) hC dX5_spreadRound_1 rfl (by rw [e2]; decide) (by decide) (?_ : SdS X 2 [(0, 0), (1, 100), (2, 0)] [] _)
  exact SdS.weak (by decide) (S_2)
theorem wl_1_103 : Cond.fieldLink RX5 59 "NarrowRings$City" "gate" "[[I" ∈ WALL := tb1 (List.mem_of_getElem? (i := 103) rfl) rfl
theorem hd_X5_spotOf : yX5_spotOf.cls ≠ "java/lang/invoke/MethodHandle" ∧ yX5_spotOf.cls ≠ "java/lang/invoke/VarHandle" ∧ (parseMethodDescriptor yX5_spotOf.desc).map (fun d => d.parameters.length) = some 2 := by decide +kernel
set_option maxRecDepth 100000 in
set_option maxHeartbeats 4000000 in
theorem M_X5_spotOf (l : Launch) : MtS l yX5_spotOf (Cond.code yX5_spotOf cX5_spotOf 2 (some .int) :: WALL) { frames := 0, cells := 0, slots := 0, locals := 0 } [11, 0] (some 0) T_X5_spotOf := by
  refine MtS.mk (B := E_X5_spotOf) (by decide +kernel) (by decide) (fun _ _ _ hh => hh) ?_
  intro X Q e1 e2 e3 hC hN hT
  subst e1
  have hC : CF X cX5_spotOf RX5 WALL := hC
  refine (?_ : SdS X 0 [(0, 11), (1, 0)] [] (E_X5_spotOf Q))
  unfold E_X5_spotOf
  refine su_aload_n hC 11 dX5_spotOf_0 rfl (by decide) (by decide) (?_ : SdS X 1 [(0, 11), (1, 0)] [11] _)
  refine su_getR hC (ci := 1) (j := 6) (C := RX1) (T := TX1) (N := 12) rfl rfl (by decide) in_X1 wl_1_103 rfl dX5_spotOf_1 (?_ : SdS X 4 [(0, 11), (1, 0)] [200] _)
  refine su_iload_n hC dX5_spotOf_4 rfl (by decide) (?_ : SdS X 5 [(0, 11), (1, 0)] [0, 200] _)
  refine su_aaload (e := 100) hC (List.mem_of_getElem? (i := 7) rfl) rfl rfl rfl dX5_spotOf_5 (?_ : SdS X 6 [(0, 11), (1, 0)] [100] _)
  refine su_iconst hC dX5_spotOf_6 ⟨by decide, by decide⟩ (?_ : SdS X 7 [(0, 11), (1, 0)] [0, 100] _)
  refine su_iaload hC dX5_spotOf_7 (?_ : SdS X 8 [(0, 11), (1, 0)] [0] _)
  refine su_bipush hC dX5_spotOf_8 (by decide) (?_ : SdS X 10 [(0, 11), (1, 0)] [0, 0] _)
  refine su_imul hC dX5_spotOf_10 (?_ : SdS X 11 [(0, 11), (1, 0)] [0] _)
  refine su_aload_n hC 11 dX5_spotOf_11 rfl (by decide) (by decide) (?_ : SdS X 12 [(0, 11), (1, 0)] [11, 0] _)
  refine su_getR hC (ci := 1) (j := 6) (C := RX1) (T := TX1) (N := 12) rfl rfl (by decide) in_X1 wl_1_103 rfl dX5_spotOf_12 (?_ : SdS X 15 [(0, 11), (1, 0)] [200, 0] _)
  refine su_iload_n hC dX5_spotOf_15 rfl (by decide) (?_ : SdS X 16 [(0, 11), (1, 0)] [0, 200, 0] _)
  refine su_aaload (e := 100) hC (List.mem_of_getElem? (i := 7) rfl) rfl rfl rfl dX5_spotOf_16 (?_ : SdS X 17 [(0, 11), (1, 0)] [100, 0] _)
  refine su_iconst hC dX5_spotOf_17 ⟨by decide, by decide⟩ (?_ : SdS X 18 [(0, 11), (1, 0)] [0, 100, 0] _)
  refine su_iaload hC dX5_spotOf_18 (?_ : SdS X 19 [(0, 11), (1, 0)] [0, 0] _)
  refine su_iadd hC dX5_spotOf_19 (?_ : SdS X 20 [(0, 11), (1, 0)] [0] _)
  exact su_ireturn hC hT dX5_spotOf_20
theorem wl_1_80 : Cond.fieldLink RX5 63 "NarrowRings$City" "rings" "I" ∈ WALL := tb1 (List.mem_of_getElem? (i := 80) rfl) rfl
theorem wl_1_81 : Cond.fieldLink RX5 23 "NarrowRings$City" "gates" "I" ∈ WALL := tb1 (List.mem_of_getElem? (i := 81) rfl) rfl
theorem wl_5_44 : Cond.methodLink RX5 50 yX5_spotOf ∈ WALL := tb5 (List.mem_of_getElem? (i := 44) rfl) rfl
theorem wl_5_45 : Cond.static yX5_spotOf ∈ WALL := tb5 (List.mem_of_getElem? (i := 45) rfl) rfl
theorem wl_5_46 : Cond.code yX5_spotOf cX5_spotOf 2 (some .int) ∈ WALL := tb5 (List.mem_of_getElem? (i := 46) rfl) rfl
theorem wl_2_98 : Cond.fieldLink RX5 20 "NarrowRings$Thief" "through" "[I" ∈ WALL := tb2 (List.mem_of_getElem? (i := 98) rfl) rfl
theorem wl_5_38 : Cond.methodLink RX5 66 yX5_spreadRound ∈ WALL := tb5 (List.mem_of_getElem? (i := 38) rfl) rfl
theorem wl_5_39 : Cond.static yX5_spreadRound ∈ WALL := tb5 (List.mem_of_getElem? (i := 39) rfl) rfl
theorem wl_5_40 : Cond.code yX5_spreadRound cX5_spreadRound 5 none ∈ WALL := tb5 (List.mem_of_getElem? (i := 40) rfl) rfl
theorem hd_X5_spread : yX5_spread.cls ≠ "java/lang/invoke/MethodHandle" ∧ yX5_spread.cls ≠ "java/lang/invoke/VarHandle" ∧ (parseMethodDescriptor yX5_spread.desc).map (fun d => d.parameters.length) = some 2 := by decide +kernel
set_option maxRecDepth 100000 in
set_option maxHeartbeats 4000000 in
theorem M_X5_spread (l : Launch) : MtS l yX5_spread (Cond.code yX5_spread cX5_spread 7 none :: WALL) { frames := 2, cells := 0, slots := 0, locals := 47 } [15, 11, 100] none T_X5_spread := by
  refine MtS.mk (B := E_X5_spread) (by decide +kernel) (by decide) (fun _ _ _ hh => hh) ?_
  intro X Q e1 e2 e3 hC hN hT
  subst e1
  have hC : CF X cX5_spread RX5 WALL := hC
  have S_121 : SdS X 121 [(0, 15), (1, 11), (2, 100), (3, 0), (4, 0)] [] (B_X5_spread_121 Q) := by
    unfold B_X5_spread_121
    exact su_return hC hT dX5_spread_121
  have S_109 : ∀ (k5 : xK), SdS X 5 [(0, 15), (1, 11), (2, 100), (3, 0), (4, 0)] [] k5 → ∀ (k48 : xK), SdS X 48 [(0, 15), (1, 11), (2, 100), (3, 0), (4, 0), (5, 0)] [] k48 → SdS X 109 [(0, 15), (1, 11), (2, 100), (3, 0), (4, 0), (5, 0), (6, 0)] [] (B_X5_spread_109 Q k5 k48) := by
    intro k5 h5 k48 h48
    unfold B_X5_spread_109
    refine su_iinc (Γ' := [(0, 15), (1, 11), (2, 100), (3, 0), (4, 0), (5, 0), (6, 0)]) hC dX5_spread_109 (by decide) (by rw [e2]; decide) (by decide) (?_ : SdS X 112 [(0, 15), (1, 11), (2, 100), (3, 0), (4, 0), (5, 0), (6, 0)] [] _)
    refine su_goto (tgt := 48) hC dX5_spread_112 rfl (?_ : SdS X 48 [(0, 15), (1, 11), (2, 100), (3, 0), (4, 0), (5, 0), (6, 0)] [] _)
    exact SdS.weak (by decide) h48
  have S_107 : ∀ (k5 : xK), SdS X 5 [(0, 15), (1, 11), (2, 100), (3, 0), (4, 0)] [] k5 → ∀ (k48 : xK), SdS X 48 [(0, 15), (1, 11), (2, 100), (3, 0), (4, 0), (5, 0)] [] k48 → SdS X 107 [(0, 15), (1, 11), (2, 100), (3, 0), (4, 0), (5, 0), (6, 0)] [] (B_X5_spread_107 Q k5 k48) := by
    intro k5 h5 k48 h48
    unfold B_X5_spread_107
    refine su_iconst hC dX5_spread_107 ⟨by decide, by decide⟩ (?_ : SdS X 108 [(0, 15), (1, 11), (2, 100), (3, 0), (4, 0), (5, 0), (6, 0)] [0] _)
    refine su_istore_n (Γ' := [(0, 15), (1, 11), (2, 100), (3, 0), (4, 0), (5, 0), (6, 0)]) hC dX5_spread_108 rfl (by rw [e2]; decide) (by decide) (?_ : SdS X 109 [(0, 15), (1, 11), (2, 100), (3, 0), (4, 0), (5, 0), (6, 0)] [] _)
    exact SdS.weak (by decide) (S_109 k5 h5 k48 h48)
  have S_48 : ∀ (k5 : xK), SdS X 5 [(0, 15), (1, 11), (2, 100), (3, 0), (4, 0)] [] k5 → SdS X 48 [(0, 15), (1, 11), (2, 100), (3, 0), (4, 0), (5, 0)] [] (L_X5_spread_48 Q k5) := by
    intro k5 h5
    unfold L_X5_spread_48
    refine SdS.loop (fun k48 h48 => ?_)
    refine su_iload hC dX5_spread_48 (by decide) (?_ : SdS X 50 [(0, 15), (1, 11), (2, 100), (3, 0), (4, 0), (5, 0)] [0] _)
    refine su_aload_n hC 11 dX5_spread_50 rfl (by decide) (by decide) (?_ : SdS X 51 [(0, 15), (1, 11), (2, 100), (3, 0), (4, 0), (5, 0)] [11, 0] _)
    refine su_getF hC (ci := 1) (j := 1) (C := RX1) (T := TX1) (N := 12) rfl rfl (by decide) in_X1 wl_1_81 rfl dX5_spread_51 (?_ : SdS X 54 [(0, 15), (1, 11), (2, 100), (3, 0), (4, 0), (5, 0)] [0, 0] _)
    refine su_icmp_ge (tgt := 115) hC dX5_spread_54 rfl (?_ : SdS X 115 [(0, 15), (1, 11), (2, 100), (3, 0), (4, 0), (5, 0)] [] _) (?_ : SdS X 57 [(0, 15), (1, 11), (2, 100), (3, 0), (4, 0), (5, 0)] [] _)
    · refine su_iinc (Γ' := [(0, 15), (1, 11), (2, 100), (3, 0), (4, 0), (5, 0)]) hC dX5_spread_115 (by decide) (by rw [e2]; decide) (by decide) (?_ : SdS X 118 [(0, 15), (1, 11), (2, 100), (3, 0), (4, 0), (5, 0)] [] _)
      refine su_goto (tgt := 5) hC dX5_spread_118 rfl (?_ : SdS X 5 [(0, 15), (1, 11), (2, 100), (3, 0), (4, 0), (5, 0)] [] _)
      exact SdS.weak (by decide) h5
    · refine su_aload_n hC 11 dX5_spread_57 rfl (by decide) (by decide) (?_ : SdS X 58 [(0, 15), (1, 11), (2, 100), (3, 0), (4, 0), (5, 0)] [11] _)
      refine su_iload hC dX5_spread_58 (by decide) (?_ : SdS X 60 [(0, 15), (1, 11), (2, 100), (3, 0), (4, 0), (5, 0)] [0, 11] _)
      refine su_invs (τ := []) (τs := [11, 0]) hC false "" WG (M_X5_spotOf _) rfl rfl rfl rfl wl_5_44 wl_5_45 wl_1_9 wl_5_46 hd_X5_spotOf (by rw [e3]; decide) (by decide) dX5_spread_60 (?_ : SdS X 63 [(0, 15), (1, 11), (2, 100), (3, 0), (4, 0), (5, 0)] [0] _)
      refine su_istore (Γ' := [(0, 15), (1, 11), (2, 100), (3, 0), (4, 0), (5, 0), (6, 0)]) hC dX5_spread_63 (by rw [e2]; decide) (by decide) (?_ : SdS X 65 [(0, 15), (1, 11), (2, 100), (3, 0), (4, 0), (5, 0), (6, 0)] [] _)
      refine su_aload_n hC 100 dX5_spread_65 rfl (by decide) (by decide) (?_ : SdS X 66 [(0, 15), (1, 11), (2, 100), (3, 0), (4, 0), (5, 0), (6, 0)] [100] _)
      refine su_iload hC dX5_spread_66 (by decide) (?_ : SdS X 68 [(0, 15), (1, 11), (2, 100), (3, 0), (4, 0), (5, 0), (6, 0)] [0, 100] _)
      refine su_iload hC dX5_spread_68 (by decide) (?_ : SdS X 70 [(0, 15), (1, 11), (2, 100), (3, 0), (4, 0), (5, 0), (6, 0)] [0, 0, 100] _)
      refine su_bipush hC dX5_spread_70 (by decide) (?_ : SdS X 72 [(0, 15), (1, 11), (2, 100), (3, 0), (4, 0), (5, 0), (6, 0)] [0, 0, 0, 100] _)
      refine su_iadd hC dX5_spread_72 (?_ : SdS X 73 [(0, 15), (1, 11), (2, 100), (3, 0), (4, 0), (5, 0), (6, 0)] [0, 0, 100] _)
      refine su_aload_n hC 15 dX5_spread_73 rfl (by decide) (by decide) (?_ : SdS X 74 [(0, 15), (1, 11), (2, 100), (3, 0), (4, 0), (5, 0), (6, 0)] [15, 0, 0, 100] _)
      refine su_getR hC (ci := 5) (j := 2) (C := RX5) (T := TX5) (N := 3) rfl rfl (by decide) in_X5 wl_2_98 rfl dX5_spread_74 (?_ : SdS X 77 [(0, 15), (1, 11), (2, 100), (3, 0), (4, 0), (5, 0), (6, 0)] [100, 0, 0, 100] _)
      refine su_iload hC dX5_spread_77 (by decide) (?_ : SdS X 79 [(0, 15), (1, 11), (2, 100), (3, 0), (4, 0), (5, 0), (6, 0)] [0, 100, 0, 0, 100] _)
      refine su_iaload hC dX5_spread_79 (?_ : SdS X 80 [(0, 15), (1, 11), (2, 100), (3, 0), (4, 0), (5, 0), (6, 0)] [0, 0, 0, 100] _)
      refine su_invs (τ := []) (τs := [100, 0, 0, 0]) hC false "" WG (M_X5_shorten _) rfl rfl rfl rfl wl_5_41 wl_5_42 wl_1_9 wl_5_43 hd_X5_shorten (by rw [e3]; decide) (by decide) dX5_spread_80 (?_ : SdS X 83 [(0, 15), (1, 11), (2, 100), (3, 0), (4, 0), (5, 0), (6, 0)] [0] _)
      refine su_if_ne (tgt := 107) hC dX5_spread_83 rfl (?_ : SdS X 107 [(0, 15), (1, 11), (2, 100), (3, 0), (4, 0), (5, 0), (6, 0)] [] _) (?_ : SdS X 86 [(0, 15), (1, 11), (2, 100), (3, 0), (4, 0), (5, 0), (6, 0)] [] _)
      · exact SdS.weak (by decide) (S_107 k5 h5 k48 h48)
      · refine su_aload_n hC 100 dX5_spread_86 rfl (by decide) (by decide) (?_ : SdS X 87 [(0, 15), (1, 11), (2, 100), (3, 0), (4, 0), (5, 0), (6, 0)] [100] _)
        refine su_iload hC dX5_spread_87 (by decide) (?_ : SdS X 89 [(0, 15), (1, 11), (2, 100), (3, 0), (4, 0), (5, 0), (6, 0)] [0, 100] _)
        refine su_bipush hC dX5_spread_89 (by decide) (?_ : SdS X 91 [(0, 15), (1, 11), (2, 100), (3, 0), (4, 0), (5, 0), (6, 0)] [0, 0, 100] _)
        refine su_iadd hC dX5_spread_91 (?_ : SdS X 92 [(0, 15), (1, 11), (2, 100), (3, 0), (4, 0), (5, 0), (6, 0)] [0, 100] _)
        refine su_iload hC dX5_spread_92 (by decide) (?_ : SdS X 94 [(0, 15), (1, 11), (2, 100), (3, 0), (4, 0), (5, 0), (6, 0)] [0, 0, 100] _)
        refine su_aload_n hC 15 dX5_spread_94 rfl (by decide) (by decide) (?_ : SdS X 95 [(0, 15), (1, 11), (2, 100), (3, 0), (4, 0), (5, 0), (6, 0)] [15, 0, 0, 100] _)
        refine su_getR hC (ci := 5) (j := 2) (C := RX5) (T := TX5) (N := 3) rfl rfl (by decide) in_X5 wl_2_98 rfl dX5_spread_95 (?_ : SdS X 98 [(0, 15), (1, 11), (2, 100), (3, 0), (4, 0), (5, 0), (6, 0)] [100, 0, 0, 100] _)
        refine su_iload hC dX5_spread_98 (by decide) (?_ : SdS X 100 [(0, 15), (1, 11), (2, 100), (3, 0), (4, 0), (5, 0), (6, 0)] [0, 100, 0, 0, 100] _)
        refine su_iaload hC dX5_spread_100 (?_ : SdS X 101 [(0, 15), (1, 11), (2, 100), (3, 0), (4, 0), (5, 0), (6, 0)] [0, 0, 0, 100] _)
        refine su_invs (τ := []) (τs := [100, 0, 0, 0]) hC false "" WG (M_X5_shorten _) rfl rfl rfl rfl wl_5_41 wl_5_42 wl_1_9 wl_5_43 hd_X5_shorten (by rw [e3]; decide) (by decide) dX5_spread_101 (?_ : SdS X 104 [(0, 15), (1, 11), (2, 100), (3, 0), (4, 0), (5, 0), (6, 0)] [0] _)
        refine su_if_eq (tgt := 109) hC dX5_spread_104 rfl (?_ : SdS X 109 [(0, 15), (1, 11), (2, 100), (3, 0), (4, 0), (5, 0), (6, 0)] [] _) (?_ : SdS X 107 [(0, 15), (1, 11), (2, 100), (3, 0), (4, 0), (5, 0), (6, 0)] [] _)
        · exact SdS.weak (by decide) (S_109 k5 h5 k48 h48)
        · exact SdS.weak (by decide) (S_107 k5 h5 k48 h48)
  have S_21 : ∀ (k5 : xK), SdS X 5 [(0, 15), (1, 11), (2, 100), (3, 0), (4, 0)] [] k5 → SdS X 21 [(0, 15), (1, 11), (2, 100), (3, 0), (4, 0), (5, 0)] [] (L_X5_spread_21 Q k5) := by
    intro k5 h5
    unfold L_X5_spread_21
    refine SdS.loop (fun k21 h21 => ?_)
    refine su_iload hC dX5_spread_21 (by decide) (?_ : SdS X 23 [(0, 15), (1, 11), (2, 100), (3, 0), (4, 0), (5, 0)] [0] _)
    refine su_aload_n hC 11 dX5_spread_23 rfl (by decide) (by decide) (?_ : SdS X 24 [(0, 15), (1, 11), (2, 100), (3, 0), (4, 0), (5, 0)] [11, 0] _)
    refine su_getF hC (ci := 1) (j := 0) (C := RX1) (T := TX1) (N := 12) rfl rfl (by decide) in_X1 wl_1_80 rfl dX5_spread_24 (?_ : SdS X 27 [(0, 15), (1, 11), (2, 100), (3, 0), (4, 0), (5, 0)] [0, 0] _)
    refine su_icmp_ge (tgt := 45) hC dX5_spread_27 rfl (?_ : SdS X 45 [(0, 15), (1, 11), (2, 100), (3, 0), (4, 0), (5, 0)] [] _) (?_ : SdS X 30 [(0, 15), (1, 11), (2, 100), (3, 0), (4, 0), (5, 0)] [] _)
    · refine su_iconst hC dX5_spread_45 ⟨by decide, by decide⟩ (?_ : SdS X 46 [(0, 15), (1, 11), (2, 100), (3, 0), (4, 0), (5, 0)] [0] _)
      refine su_istore (Γ' := [(0, 15), (1, 11), (2, 100), (3, 0), (4, 0), (5, 0)]) hC dX5_spread_46 (by rw [e2]; decide) (by decide) (?_ : SdS X 48 [(0, 15), (1, 11), (2, 100), (3, 0), (4, 0), (5, 0)] [] _)
      exact SdS.weak (by decide) (S_48 k5 h5)
    · refine su_iload hC dX5_spread_30 (by decide) (?_ : SdS X 32 [(0, 15), (1, 11), (2, 100), (3, 0), (4, 0), (5, 0)] [0] _)
      refine su_bipush hC dX5_spread_32 (by decide) (?_ : SdS X 34 [(0, 15), (1, 11), (2, 100), (3, 0), (4, 0), (5, 0)] [0, 0] _)
      refine su_imul hC dX5_spread_34 (?_ : SdS X 35 [(0, 15), (1, 11), (2, 100), (3, 0), (4, 0), (5, 0)] [0] _)
      refine su_aload_n hC 100 dX5_spread_35 rfl (by decide) (by decide) (?_ : SdS X 36 [(0, 15), (1, 11), (2, 100), (3, 0), (4, 0), (5, 0)] [100, 0] _)
      refine su_invsv (τ := []) (τs := [0, 100]) hC false "" WG (M_X5_spreadRound _) rfl rfl rfl rfl wl_5_38 wl_5_39 wl_1_9 wl_5_40 hd_X5_spreadRound (by rw [e3]; decide) (by decide) dX5_spread_36 (?_ : SdS X 39 [(0, 15), (1, 11), (2, 100), (3, 0), (4, 0), (5, 0)] [] _)
      refine su_iinc (Γ' := [(0, 15), (1, 11), (2, 100), (3, 0), (4, 0), (5, 0)]) hC dX5_spread_39 (by decide) (by rw [e2]; decide) (by decide) (?_ : SdS X 42 [(0, 15), (1, 11), (2, 100), (3, 0), (4, 0), (5, 0)] [] _)
      refine su_goto (tgt := 21) hC dX5_spread_42 rfl (?_ : SdS X 21 [(0, 15), (1, 11), (2, 100), (3, 0), (4, 0), (5, 0)] [] _)
      exact SdS.weak (by decide) h21
  have S_5 : SdS X 5 [(0, 15), (1, 11), (2, 100), (3, 0), (4, 0)] [] (L_X5_spread_5 Q) := by
    unfold L_X5_spread_5
    refine SdS.loop (fun k5 h5 => ?_)
    refine su_iload_n hC dX5_spread_5 rfl (by decide) (?_ : SdS X 6 [(0, 15), (1, 11), (2, 100), (3, 0), (4, 0)] [0] _)
    refine su_if_eq (tgt := 121) hC dX5_spread_6 rfl (?_ : SdS X 121 [(0, 15), (1, 11), (2, 100), (3, 0), (4, 0)] [] _) (?_ : SdS X 9 [(0, 15), (1, 11), (2, 100), (3, 0), (4, 0)] [] _)
    · exact SdS.weak (by decide) (S_121)
    · refine su_iload hC dX5_spread_9 (by decide) (?_ : SdS X 11 [(0, 15), (1, 11), (2, 100), (3, 0), (4, 0)] [0] _)
      refine su_bipush hC dX5_spread_11 (by decide) (?_ : SdS X 13 [(0, 15), (1, 11), (2, 100), (3, 0), (4, 0)] [0, 0] _)
      refine su_icmp_ge (tgt := 121) hC dX5_spread_13 rfl (?_ : SdS X 121 [(0, 15), (1, 11), (2, 100), (3, 0), (4, 0)] [] _) (?_ : SdS X 16 [(0, 15), (1, 11), (2, 100), (3, 0), (4, 0)] [] _)
      · exact SdS.weak (by decide) (S_121)
      · refine su_iconst hC dX5_spread_16 ⟨by decide, by decide⟩ (?_ : SdS X 17 [(0, 15), (1, 11), (2, 100), (3, 0), (4, 0)] [0] _)
        refine su_istore_n (Γ' := [(0, 15), (1, 11), (2, 100), (3, 0), (4, 0)]) hC dX5_spread_17 rfl (by rw [e2]; decide) (by decide) (?_ : SdS X 18 [(0, 15), (1, 11), (2, 100), (3, 0), (4, 0)] [] _)
        refine su_iconst hC dX5_spread_18 ⟨by decide, by decide⟩ (?_ : SdS X 19 [(0, 15), (1, 11), (2, 100), (3, 0), (4, 0)] [0] _)
        refine su_istore (Γ' := [(0, 15), (1, 11), (2, 100), (3, 0), (4, 0), (5, 0)]) hC dX5_spread_19 (by rw [e2]; decide) (by decide) (?_ : SdS X 21 [(0, 15), (1, 11), (2, 100), (3, 0), (4, 0), (5, 0)] [] _)
        exact SdS.weak (by decide) (S_21 k5 h5)
  refine (?_ : SdS X 0 [(0, 15), (1, 11), (2, 100)] [] (E_X5_spread Q))
  unfold E_X5_spread
  refine su_iconst hC dX5_spread_0 ⟨by decide, by decide⟩ (?_ : SdS X 1 [(0, 15), (1, 11), (2, 100)] [0] _)
  refine su_istore_n (Γ' := [(0, 15), (1, 11), (2, 100), (3, 0)]) hC dX5_spread_1 rfl (by rw [e2]; decide) (by decide) (?_ : SdS X 2 [(0, 15), (1, 11), (2, 100), (3, 0)] [] _)
  refine su_iconst hC dX5_spread_2 ⟨by decide, by decide⟩ (?_ : SdS X 3 [(0, 15), (1, 11), (2, 100), (3, 0)] [0] _)
  refine su_istore (Γ' := [(0, 15), (1, 11), (2, 100), (3, 0), (4, 0)]) hC dX5_spread_3 (by rw [e2]; decide) (by decide) (?_ : SdS X 5 [(0, 15), (1, 11), (2, 100), (3, 0), (4, 0)] [] _)
  exact SdS.weak (by decide) (S_5)
theorem wl_2_96 : Cond.fieldLink RX5 13 "NarrowRings$Thief" "since" "[I" ∈ WALL := tb2 (List.mem_of_getElem? (i := 96) rfl) rfl
theorem wl_2_97 : Cond.fieldLink RX5 17 "NarrowRings$Thief" "until" "[I" ∈ WALL := tb2 (List.mem_of_getElem? (i := 97) rfl) rfl
theorem wl_5_51 : Cond.methodLink RX5 53 yJ9_min_7cf53 ∈ WALL := tb5 (List.mem_of_getElem? (i := 51) rfl) rfl
theorem hd_X5_shortestBy : yX5_shortestBy.cls ≠ "java/lang/invoke/MethodHandle" ∧ yX5_shortestBy.cls ≠ "java/lang/invoke/VarHandle" ∧ (parseMethodDescriptor yX5_shortestBy.desc).map (fun d => d.parameters.length) = some 2 := by decide +kernel
set_option maxRecDepth 100000 in
set_option maxHeartbeats 4000000 in
theorem M_X5_shortestBy (l : Launch) : MtS l yX5_shortestBy (Cond.code yX5_shortestBy cX5_shortestBy 7 (some .int) :: WALL) { frames := 1, cells := 0, slots := 0, locals := 21 } [15, 11, 0] (some 0) T_X5_shortestBy := by
  refine MtS.mk (B := E_X5_shortestBy) (by decide +kernel) (by decide) (fun _ _ _ hh => hh) ?_
  intro X Q e1 e2 e3 hC hN hT
  subst e1
  have hC : CF X cX5_shortestBy RX5 WALL := hC
  refine (?_ : SdS X 0 [(0, 15), (1, 11), (2, 0)] [] (E_X5_shortestBy Q))
  unfold E_X5_shortestBy
  refine su_aload_n hC 11 dX5_shortestBy_0 rfl (by decide) (by decide) (?_ : SdS X 1 [(0, 15), (1, 11), (2, 0)] [11] _)
  refine su_iload_n hC dX5_shortestBy_1 rfl (by decide) (?_ : SdS X 2 [(0, 15), (1, 11), (2, 0)] [0, 11] _)
  refine su_invs (τ := []) (τs := [11, 0]) hC false "" WG (M_X5_spotOf _) rfl rfl rfl rfl wl_5_44 wl_5_45 wl_1_9 wl_5_46 hd_X5_spotOf (by rw [e3]; decide) (by decide) dX5_shortestBy_2 (?_ : SdS X 5 [(0, 15), (1, 11), (2, 0)] [0] _)
  refine su_istore_n (Γ' := [(0, 15), (1, 11), (2, 0), (3, 0)]) hC dX5_shortestBy_5 rfl (by rw [e2]; decide) (by decide) (?_ : SdS X 6 [(0, 15), (1, 11), (2, 0), (3, 0)] [] _)
  refine su_iload_n hC dX5_shortestBy_6 rfl (by decide) (?_ : SdS X 7 [(0, 15), (1, 11), (2, 0), (3, 0)] [0] _)
  refine su_bipush hC dX5_shortestBy_7 (by decide) (?_ : SdS X 9 [(0, 15), (1, 11), (2, 0), (3, 0)] [0, 0] _)
  refine su_iadd hC dX5_shortestBy_9 (?_ : SdS X 10 [(0, 15), (1, 11), (2, 0), (3, 0)] [0] _)
  refine su_istore (Γ' := [(0, 15), (1, 11), (2, 0), (3, 0), (4, 0)]) hC dX5_shortestBy_10 (by rw [e2]; decide) (by decide) (?_ : SdS X 12 [(0, 15), (1, 11), (2, 0), (3, 0), (4, 0)] [] _)
  refine su_aload_n hC 15 dX5_shortestBy_12 rfl (by decide) (by decide) (?_ : SdS X 13 [(0, 15), (1, 11), (2, 0), (3, 0), (4, 0)] [15] _)
  refine su_getR hC (ci := 5) (j := 0) (C := RX5) (T := TX5) (N := 3) rfl rfl (by decide) in_X5 wl_2_96 rfl dX5_shortestBy_13 (?_ : SdS X 16 [(0, 15), (1, 11), (2, 0), (3, 0), (4, 0)] [100] _)
  refine su_iload hC dX5_shortestBy_16 (by decide) (?_ : SdS X 18 [(0, 15), (1, 11), (2, 0), (3, 0), (4, 0)] [0, 100] _)
  refine su_iaload hC dX5_shortestBy_18 (?_ : SdS X 19 [(0, 15), (1, 11), (2, 0), (3, 0), (4, 0)] [0] _)
  refine su_aload_n hC 15 dX5_shortestBy_19 rfl (by decide) (by decide) (?_ : SdS X 20 [(0, 15), (1, 11), (2, 0), (3, 0), (4, 0)] [15, 0] _)
  refine su_getR hC (ci := 5) (j := 1) (C := RX5) (T := TX5) (N := 3) rfl rfl (by decide) in_X5 wl_2_97 rfl dX5_shortestBy_20 (?_ : SdS X 23 [(0, 15), (1, 11), (2, 0), (3, 0), (4, 0)] [100, 0] _)
  refine su_iload_n hC dX5_shortestBy_23 rfl (by decide) (?_ : SdS X 24 [(0, 15), (1, 11), (2, 0), (3, 0), (4, 0)] [0, 100, 0] _)
  refine su_iaload hC dX5_shortestBy_24 (?_ : SdS X 25 [(0, 15), (1, 11), (2, 0), (3, 0), (4, 0)] [0, 0] _)
  refine su_iadd hC dX5_shortestBy_25 (?_ : SdS X 26 [(0, 15), (1, 11), (2, 0), (3, 0), (4, 0)] [0] _)
  refine su_istore (Γ' := [(0, 15), (1, 11), (2, 0), (3, 0), (4, 0), (5, 0)]) hC dX5_shortestBy_26 (by rw [e2]; decide) (by decide) (?_ : SdS X 28 [(0, 15), (1, 11), (2, 0), (3, 0), (4, 0), (5, 0)] [] _)
  refine su_aload_n hC 15 dX5_shortestBy_28 rfl (by decide) (by decide) (?_ : SdS X 29 [(0, 15), (1, 11), (2, 0), (3, 0), (4, 0), (5, 0)] [15] _)
  refine su_getR hC (ci := 5) (j := 0) (C := RX5) (T := TX5) (N := 3) rfl rfl (by decide) in_X5 wl_2_96 rfl dX5_shortestBy_29 (?_ : SdS X 32 [(0, 15), (1, 11), (2, 0), (3, 0), (4, 0), (5, 0)] [100] _)
  refine su_iload_n hC dX5_shortestBy_32 rfl (by decide) (?_ : SdS X 33 [(0, 15), (1, 11), (2, 0), (3, 0), (4, 0), (5, 0)] [0, 100] _)
  refine su_iaload hC dX5_shortestBy_33 (?_ : SdS X 34 [(0, 15), (1, 11), (2, 0), (3, 0), (4, 0), (5, 0)] [0] _)
  refine su_aload_n hC 15 dX5_shortestBy_34 rfl (by decide) (by decide) (?_ : SdS X 35 [(0, 15), (1, 11), (2, 0), (3, 0), (4, 0), (5, 0)] [15, 0] _)
  refine su_getR hC (ci := 5) (j := 1) (C := RX5) (T := TX5) (N := 3) rfl rfl (by decide) in_X5 wl_2_97 rfl dX5_shortestBy_35 (?_ : SdS X 38 [(0, 15), (1, 11), (2, 0), (3, 0), (4, 0), (5, 0)] [100, 0] _)
  refine su_iload hC dX5_shortestBy_38 (by decide) (?_ : SdS X 40 [(0, 15), (1, 11), (2, 0), (3, 0), (4, 0), (5, 0)] [0, 100, 0] _)
  refine su_iaload hC dX5_shortestBy_40 (?_ : SdS X 41 [(0, 15), (1, 11), (2, 0), (3, 0), (4, 0), (5, 0)] [0, 0] _)
  refine su_iadd hC dX5_shortestBy_41 (?_ : SdS X 42 [(0, 15), (1, 11), (2, 0), (3, 0), (4, 0), (5, 0)] [0] _)
  refine su_istore (Γ' := [(0, 15), (1, 11), (2, 0), (3, 0), (4, 0), (5, 0), (6, 0)]) hC dX5_shortestBy_42 (by rw [e2]; decide) (by decide) (?_ : SdS X 44 [(0, 15), (1, 11), (2, 0), (3, 0), (4, 0), (5, 0), (6, 0)] [] _)
  refine su_iload hC dX5_shortestBy_44 (by decide) (?_ : SdS X 46 [(0, 15), (1, 11), (2, 0), (3, 0), (4, 0), (5, 0), (6, 0)] [0] _)
  refine su_iload hC dX5_shortestBy_46 (by decide) (?_ : SdS X 48 [(0, 15), (1, 11), (2, 0), (3, 0), (4, 0), (5, 0), (6, 0)] [0, 0] _)
  refine su_imin hC wl_5_51 wl_3_140 wl_1_16 wl_3_141 (by rw [e3]; decide) (by decide) dX5_shortestBy_48 (?_ : SdS X 51 [(0, 15), (1, 11), (2, 0), (3, 0), (4, 0), (5, 0), (6, 0)] [0] _)
  refine su_aload_n hC 15 dX5_shortestBy_51 rfl (by decide) (by decide) (?_ : SdS X 52 [(0, 15), (1, 11), (2, 0), (3, 0), (4, 0), (5, 0), (6, 0)] [15, 0] _)
  refine su_getR hC (ci := 5) (j := 2) (C := RX5) (T := TX5) (N := 3) rfl rfl (by decide) in_X5 wl_2_98 rfl dX5_shortestBy_52 (?_ : SdS X 55 [(0, 15), (1, 11), (2, 0), (3, 0), (4, 0), (5, 0), (6, 0)] [100, 0] _)
  refine su_iload_n hC dX5_shortestBy_55 rfl (by decide) (?_ : SdS X 56 [(0, 15), (1, 11), (2, 0), (3, 0), (4, 0), (5, 0), (6, 0)] [0, 100, 0] _)
  refine su_iaload hC dX5_shortestBy_56 (?_ : SdS X 57 [(0, 15), (1, 11), (2, 0), (3, 0), (4, 0), (5, 0), (6, 0)] [0, 0] _)
  refine su_iadd hC dX5_shortestBy_57 (?_ : SdS X 58 [(0, 15), (1, 11), (2, 0), (3, 0), (4, 0), (5, 0), (6, 0)] [0] _)
  exact su_ireturn hC hT dX5_shortestBy_58
theorem wl_5_32 : Cond.constant RX5 35 (Int32.ofInt 100000) ∈ WALL := tb5 (List.mem_of_getElem? (i := 32) rfl) rfl
theorem wl_5_33 : Cond.methodLink RX5 36 yJ7_fill_53178 ∈ WALL := tb5 (List.mem_of_getElem? (i := 33) rfl) rfl
theorem wl_5_34 : Cond.methodLink RX5 42 yX5_spread ∈ WALL := tb5 (List.mem_of_getElem? (i := 34) rfl) rfl
theorem wl_5_36 : Cond.instanceMethod yX5_spread ∈ WALL := tb5 (List.mem_of_getElem? (i := 36) rfl) rfl
theorem wp_59 : Cond.selects RX5 yX5_spread yX5_spread ∈ WALL := tbS (List.mem_of_getElem? (i := 59) rfl)
theorem wl_5_37 : Cond.code yX5_spread cX5_spread 7 none ∈ WALL := tb5 (List.mem_of_getElem? (i := 37) rfl) rfl
theorem wl_5_47 : Cond.methodLink RX5 46 yX5_shortestBy ∈ WALL := tb5 (List.mem_of_getElem? (i := 47) rfl) rfl
theorem wl_5_49 : Cond.instanceMethod yX5_shortestBy ∈ WALL := tb5 (List.mem_of_getElem? (i := 49) rfl) rfl
theorem wp_60 : Cond.selects RX5 yX5_shortestBy yX5_shortestBy ∈ WALL := tbS (List.mem_of_getElem? (i := 60) rfl)
theorem wl_5_50 : Cond.code yX5_shortestBy cX5_shortestBy 7 (some .int) ∈ WALL := tb5 (List.mem_of_getElem? (i := 50) rfl) rfl
theorem wl_5_30 : Cond.methodLink RX5 27 yX1_letsThrough ∈ WALL := tb5 (List.mem_of_getElem? (i := 30) rfl) rfl
theorem wl_5_31 : Cond.methodLink RX5 31 yX1_loadingHours ∈ WALL := tb5 (List.mem_of_getElem? (i := 31) rfl) rfl
theorem hd_X5_gatesOf : yX5_gatesOf.cls ≠ "java/lang/invoke/MethodHandle" ∧ yX5_gatesOf.cls ≠ "java/lang/invoke/VarHandle" ∧ (parseMethodDescriptor yX5_gatesOf.desc).map (fun d => d.parameters.length) = some 4 := by decide +kernel
set_option maxRecDepth 100000 in
set_option maxHeartbeats 4000000 in
theorem M_X5_gatesOf (l : Launch) : MtS l yX5_gatesOf (Cond.code yX5_gatesOf cX5_gatesOf 7 (some .int) :: WALL) { frames := 3, cells := 0, slots := 0, locals := 74 } [15, 11, 16, 0, 0] (some 0) T_X5_gatesOf := by
  refine MtS.mk (B := E_X5_gatesOf) (by decide +kernel) (by decide) (fun _ _ _ hh => hh) ?_
  intro X Q e1 e2 e3 hC hN hT
  subst e1
  have hC : CF X cX5_gatesOf RX5 WALL := hC
  have S_160 : ∀ (k130 : xK), SdS X 130 [(0, 15), (1, 11), (2, 16), (3, 0), (4, 0), (5, 0), (6, 0)] [] k130 → SdS X 160 [(0, 15), (1, 11), (2, 16), (3, 0), (4, 0), (5, 0), (6, 0)] [] (B_X5_gatesOf_160 Q k130) := by
    intro k130 h130
    unfold B_X5_gatesOf_160
    refine su_iinc (Γ' := [(0, 15), (1, 11), (2, 16), (3, 0), (4, 0), (5, 0), (6, 0)]) hC dX5_gatesOf_160 (by decide) (by rw [e2]; decide) (by decide) (?_ : SdS X 163 [(0, 15), (1, 11), (2, 16), (3, 0), (4, 0), (5, 0), (6, 0)] [] _)
    refine su_goto (tgt := 130) hC dX5_gatesOf_163 rfl (?_ : SdS X 130 [(0, 15), (1, 11), (2, 16), (3, 0), (4, 0), (5, 0), (6, 0)] [] _)
    exact SdS.weak (by decide) h130
  have S_130 : SdS X 130 [(0, 15), (1, 11), (2, 16), (3, 0), (4, 0), (5, 0), (6, 0)] [] (L_X5_gatesOf_130 Q) := by
    unfold L_X5_gatesOf_130
    refine SdS.loop (fun k130 h130 => ?_)
    refine su_iload hC dX5_gatesOf_130 (by decide) (?_ : SdS X 132 [(0, 15), (1, 11), (2, 16), (3, 0), (4, 0), (5, 0), (6, 0)] [0] _)
    refine su_aload_n hC 11 dX5_gatesOf_132 rfl (by decide) (by decide) (?_ : SdS X 133 [(0, 15), (1, 11), (2, 16), (3, 0), (4, 0), (5, 0), (6, 0)] [11, 0] _)
    refine su_getF hC (ci := 1) (j := 1) (C := RX1) (T := TX1) (N := 12) rfl rfl (by decide) in_X1 wl_1_81 rfl dX5_gatesOf_133 (?_ : SdS X 136 [(0, 15), (1, 11), (2, 16), (3, 0), (4, 0), (5, 0), (6, 0)] [0, 0] _)
    refine su_icmp_ge (tgt := 166) hC dX5_gatesOf_136 rfl (?_ : SdS X 166 [(0, 15), (1, 11), (2, 16), (3, 0), (4, 0), (5, 0), (6, 0)] [] _) (?_ : SdS X 139 [(0, 15), (1, 11), (2, 16), (3, 0), (4, 0), (5, 0), (6, 0)] [] _)
    · refine su_iload hC dX5_gatesOf_166 (by decide) (?_ : SdS X 168 [(0, 15), (1, 11), (2, 16), (3, 0), (4, 0), (5, 0), (6, 0)] [0] _)
      exact su_ireturn hC hT dX5_gatesOf_168
    · refine su_aload_n hC 15 dX5_gatesOf_139 rfl (by decide) (by decide) (?_ : SdS X 140 [(0, 15), (1, 11), (2, 16), (3, 0), (4, 0), (5, 0), (6, 0)] [15] _)
      refine su_aload_n hC 11 dX5_gatesOf_140 rfl (by decide) (by decide) (?_ : SdS X 141 [(0, 15), (1, 11), (2, 16), (3, 0), (4, 0), (5, 0), (6, 0)] [11, 15] _)
      refine su_iload hC dX5_gatesOf_141 (by decide) (?_ : SdS X 143 [(0, 15), (1, 11), (2, 16), (3, 0), (4, 0), (5, 0), (6, 0)] [0, 11, 15] _)
      refine su_inv0 (τ := []) (τr := [11, 0]) (ci := 5) (q := (RX5, TX5, 3)) hC WG (M_X5_shortestBy _) rfl rfl rfl rfl  rfl rfl wl_5_47 wl_5_49 wp_60 wl_1_9 wl_5_50 hd_X5_shortestBy (by rw [e3]; decide) (by decide) dX5_gatesOf_143 (?_ : SdS X 146 [(0, 15), (1, 11), (2, 16), (3, 0), (4, 0), (5, 0), (6, 0)] [0] _)
      refine su_iload hC dX5_gatesOf_146 (by decide) (?_ : SdS X 148 [(0, 15), (1, 11), (2, 16), (3, 0), (4, 0), (5, 0), (6, 0)] [0, 0] _)
      refine su_icmp_gt (tgt := 160) hC dX5_gatesOf_148 rfl (?_ : SdS X 160 [(0, 15), (1, 11), (2, 16), (3, 0), (4, 0), (5, 0), (6, 0)] [] _) (?_ : SdS X 151 [(0, 15), (1, 11), (2, 16), (3, 0), (4, 0), (5, 0), (6, 0)] [] _)
      · exact SdS.weak (by decide) (S_160 k130 h130)
      · refine su_iload hC dX5_gatesOf_151 (by decide) (?_ : SdS X 153 [(0, 15), (1, 11), (2, 16), (3, 0), (4, 0), (5, 0), (6, 0)] [0] _)
        refine su_iconst hC dX5_gatesOf_153 ⟨by decide, by decide⟩ (?_ : SdS X 154 [(0, 15), (1, 11), (2, 16), (3, 0), (4, 0), (5, 0), (6, 0)] [0, 0] _)
        refine su_iload hC dX5_gatesOf_154 (by decide) (?_ : SdS X 156 [(0, 15), (1, 11), (2, 16), (3, 0), (4, 0), (5, 0), (6, 0)] [0, 0, 0] _)
        refine su_ishl hC dX5_gatesOf_156 (?_ : SdS X 157 [(0, 15), (1, 11), (2, 16), (3, 0), (4, 0), (5, 0), (6, 0)] [0, 0] _)
        refine su_ior hC dX5_gatesOf_157 (?_ : SdS X 158 [(0, 15), (1, 11), (2, 16), (3, 0), (4, 0), (5, 0), (6, 0)] [0] _)
        refine su_istore (Γ' := [(0, 15), (1, 11), (2, 16), (3, 0), (4, 0), (5, 0), (6, 0)]) hC dX5_gatesOf_158 (by rw [e2]; decide) (by decide) (?_ : SdS X 160 [(0, 15), (1, 11), (2, 16), (3, 0), (4, 0), (5, 0), (6, 0)] [] _)
        exact SdS.weak (by decide) (S_160 k130 h130)
  have S_94 : SdS X 94 [(0, 15), (1, 11), (2, 16), (3, 0), (4, 0), (5, 0)] [] (L_X5_gatesOf_94 Q) := by
    unfold L_X5_gatesOf_94
    refine SdS.loop (fun k94 h94 => ?_)
    refine su_iload hC dX5_gatesOf_94 (by decide) (?_ : SdS X 96 [(0, 15), (1, 11), (2, 16), (3, 0), (4, 0), (5, 0)] [0] _)
    refine su_bipush hC dX5_gatesOf_96 (by decide) (?_ : SdS X 98 [(0, 15), (1, 11), (2, 16), (3, 0), (4, 0), (5, 0)] [0, 0] _)
    refine su_icmp_ge (tgt := 115) hC dX5_gatesOf_98 rfl (?_ : SdS X 115 [(0, 15), (1, 11), (2, 16), (3, 0), (4, 0), (5, 0)] [] _) (?_ : SdS X 101 [(0, 15), (1, 11), (2, 16), (3, 0), (4, 0), (5, 0)] [] _)
    · refine su_aload_n hC 15 dX5_gatesOf_115 rfl (by decide) (by decide) (?_ : SdS X 116 [(0, 15), (1, 11), (2, 16), (3, 0), (4, 0), (5, 0)] [15] _)
      refine su_aload_n hC 11 dX5_gatesOf_116 rfl (by decide) (by decide) (?_ : SdS X 117 [(0, 15), (1, 11), (2, 16), (3, 0), (4, 0), (5, 0)] [11, 15] _)
      refine su_aload_n hC 15 dX5_gatesOf_117 rfl (by decide) (by decide) (?_ : SdS X 118 [(0, 15), (1, 11), (2, 16), (3, 0), (4, 0), (5, 0)] [15, 11, 15] _)
      refine su_getR hC (ci := 5) (j := 1) (C := RX5) (T := TX5) (N := 3) rfl rfl (by decide) in_X5 wl_2_97 rfl dX5_gatesOf_118 (?_ : SdS X 121 [(0, 15), (1, 11), (2, 16), (3, 0), (4, 0), (5, 0)] [100, 11, 15] _)
      refine su_inv0v (τ := []) (τr := [11, 100]) (ci := 5) (q := (RX5, TX5, 3)) hC WG (M_X5_spread _) rfl rfl rfl rfl  rfl rfl wl_5_34 wl_5_36 wp_59 wl_1_9 wl_5_37 hd_X5_spread (by rw [e3]; decide) (by decide) dX5_gatesOf_121 (?_ : SdS X 124 [(0, 15), (1, 11), (2, 16), (3, 0), (4, 0), (5, 0)] [] _)
      refine su_iconst hC dX5_gatesOf_124 ⟨by decide, by decide⟩ (?_ : SdS X 125 [(0, 15), (1, 11), (2, 16), (3, 0), (4, 0), (5, 0)] [0] _)
      refine su_istore (Γ' := [(0, 15), (1, 11), (2, 16), (3, 0), (4, 0), (5, 0)]) hC dX5_gatesOf_125 (by rw [e2]; decide) (by decide) (?_ : SdS X 127 [(0, 15), (1, 11), (2, 16), (3, 0), (4, 0), (5, 0)] [] _)
      refine su_iconst hC dX5_gatesOf_127 ⟨by decide, by decide⟩ (?_ : SdS X 128 [(0, 15), (1, 11), (2, 16), (3, 0), (4, 0), (5, 0)] [0] _)
      refine su_istore (Γ' := [(0, 15), (1, 11), (2, 16), (3, 0), (4, 0), (5, 0), (6, 0)]) hC dX5_gatesOf_128 (by rw [e2]; decide) (by decide) (?_ : SdS X 130 [(0, 15), (1, 11), (2, 16), (3, 0), (4, 0), (5, 0), (6, 0)] [] _)
      exact SdS.weak (by decide) (S_130)
    · refine su_aload_n hC 15 dX5_gatesOf_101 rfl (by decide) (by decide) (?_ : SdS X 102 [(0, 15), (1, 11), (2, 16), (3, 0), (4, 0), (5, 0)] [15] _)
      refine su_getR hC (ci := 5) (j := 1) (C := RX5) (T := TX5) (N := 3) rfl rfl (by decide) in_X5 wl_2_97 rfl dX5_gatesOf_102 (?_ : SdS X 105 [(0, 15), (1, 11), (2, 16), (3, 0), (4, 0), (5, 0)] [100] _)
      refine su_iload hC dX5_gatesOf_105 (by decide) (?_ : SdS X 107 [(0, 15), (1, 11), (2, 16), (3, 0), (4, 0), (5, 0)] [0, 100] _)
      refine su_iconst hC dX5_gatesOf_107 ⟨by decide, by decide⟩ (?_ : SdS X 108 [(0, 15), (1, 11), (2, 16), (3, 0), (4, 0), (5, 0)] [0, 0, 100] _)
      refine su_iastore hC dX5_gatesOf_108 (?_ : SdS X 109 [(0, 15), (1, 11), (2, 16), (3, 0), (4, 0), (5, 0)] [] _)
      refine su_iinc (Γ' := [(0, 15), (1, 11), (2, 16), (3, 0), (4, 0), (5, 0)]) hC dX5_gatesOf_109 (by decide) (by rw [e2]; decide) (by decide) (?_ : SdS X 112 [(0, 15), (1, 11), (2, 16), (3, 0), (4, 0), (5, 0)] [] _)
      refine su_goto (tgt := 94) hC dX5_gatesOf_112 rfl (?_ : SdS X 94 [(0, 15), (1, 11), (2, 16), (3, 0), (4, 0), (5, 0)] [] _)
      exact SdS.weak (by decide) h94
  have S_73 : SdS X 73 [(0, 15), (1, 11), (2, 16), (3, 0), (4, 0), (5, 0)] [] (B_X5_gatesOf_73 Q) := by
    unfold B_X5_gatesOf_73
    refine su_aload_n hC 15 dX5_gatesOf_73 rfl (by decide) (by decide) (?_ : SdS X 74 [(0, 15), (1, 11), (2, 16), (3, 0), (4, 0), (5, 0)] [15] _)
    refine su_aload_n hC 11 dX5_gatesOf_74 rfl (by decide) (by decide) (?_ : SdS X 75 [(0, 15), (1, 11), (2, 16), (3, 0), (4, 0), (5, 0)] [11, 15] _)
    refine su_aload_n hC 15 dX5_gatesOf_75 rfl (by decide) (by decide) (?_ : SdS X 76 [(0, 15), (1, 11), (2, 16), (3, 0), (4, 0), (5, 0)] [15, 11, 15] _)
    refine su_getR hC (ci := 5) (j := 0) (C := RX5) (T := TX5) (N := 3) rfl rfl (by decide) in_X5 wl_2_96 rfl dX5_gatesOf_76 (?_ : SdS X 79 [(0, 15), (1, 11), (2, 16), (3, 0), (4, 0), (5, 0)] [100, 11, 15] _)
    refine su_inv0v (τ := []) (τr := [11, 100]) (ci := 5) (q := (RX5, TX5, 3)) hC WG (M_X5_spread _) rfl rfl rfl rfl  rfl rfl wl_5_34 wl_5_36 wp_59 wl_1_9 wl_5_37 hd_X5_spread (by rw [e3]; decide) (by decide) dX5_gatesOf_79 (?_ : SdS X 82 [(0, 15), (1, 11), (2, 16), (3, 0), (4, 0), (5, 0)] [] _)
    refine su_aload_n hC 15 dX5_gatesOf_82 rfl (by decide) (by decide) (?_ : SdS X 83 [(0, 15), (1, 11), (2, 16), (3, 0), (4, 0), (5, 0)] [15] _)
    refine su_getR hC (ci := 5) (j := 1) (C := RX5) (T := TX5) (N := 3) rfl rfl (by decide) in_X5 wl_2_97 rfl dX5_gatesOf_83 (?_ : SdS X 86 [(0, 15), (1, 11), (2, 16), (3, 0), (4, 0), (5, 0)] [100] _)
    refine su_ldc hC wl_5_32 dX5_gatesOf_86 ⟨by decide, by decide⟩ (?_ : SdS X 88 [(0, 15), (1, 11), (2, 16), (3, 0), (4, 0), (5, 0)] [0, 100] _)
    refine su_invsv (τ := []) (τs := [100, 0]) hC false "" WG (M_J7_fill_53178 _) rfl rfl rfl rfl wl_5_33 wl_2_188 wl_1_11 wl_2_189 hd_J7_fill_53178 (by rw [e3]; decide) (by decide) dX5_gatesOf_88 (?_ : SdS X 91 [(0, 15), (1, 11), (2, 16), (3, 0), (4, 0), (5, 0)] [] _)
    refine su_iconst hC dX5_gatesOf_91 ⟨by decide, by decide⟩ (?_ : SdS X 92 [(0, 15), (1, 11), (2, 16), (3, 0), (4, 0), (5, 0)] [0] _)
    refine su_istore (Γ' := [(0, 15), (1, 11), (2, 16), (3, 0), (4, 0), (5, 0)]) hC dX5_gatesOf_92 (by rw [e2]; decide) (by decide) (?_ : SdS X 94 [(0, 15), (1, 11), (2, 16), (3, 0), (4, 0), (5, 0)] [] _)
    exact SdS.weak (by decide) (S_94)
  have S_40 : ∀ (k3 : xK), SdS X 3 [(0, 15), (1, 11), (2, 16), (3, 0), (4, 0), (5, 0)] [] k3 → SdS X 40 [(0, 15), (1, 11), (2, 16), (3, 0), (4, 0), (5, 0)] [0, 0, 100] (B_X5_gatesOf_40 Q k3) := by
    intro k3 h3
    unfold B_X5_gatesOf_40
    refine su_iastore hC dX5_gatesOf_40 (?_ : SdS X 41 [(0, 15), (1, 11), (2, 16), (3, 0), (4, 0), (5, 0)] [] _)
    refine su_iinc (Γ' := [(0, 15), (1, 11), (2, 16), (3, 0), (4, 0), (5, 0)]) hC dX5_gatesOf_41 (by decide) (by rw [e2]; decide) (by decide) (?_ : SdS X 44 [(0, 15), (1, 11), (2, 16), (3, 0), (4, 0), (5, 0)] [] _)
    refine su_goto (tgt := 3) hC dX5_gatesOf_44 rfl (?_ : SdS X 3 [(0, 15), (1, 11), (2, 16), (3, 0), (4, 0), (5, 0)] [] _)
    exact SdS.weak (by decide) h3
  have S_3 : SdS X 3 [(0, 15), (1, 11), (2, 16), (3, 0), (4, 0), (5, 0)] [] (L_X5_gatesOf_3 Q) := by
    unfold L_X5_gatesOf_3
    refine SdS.loop (fun k3 h3 => ?_)
    refine su_iload hC dX5_gatesOf_3 (by decide) (?_ : SdS X 5 [(0, 15), (1, 11), (2, 16), (3, 0), (4, 0), (5, 0)] [0] _)
    refine su_aload_n hC 11 dX5_gatesOf_5 rfl (by decide) (by decide) (?_ : SdS X 6 [(0, 15), (1, 11), (2, 16), (3, 0), (4, 0), (5, 0)] [11, 0] _)
    refine su_getF hC (ci := 1) (j := 1) (C := RX1) (T := TX1) (N := 12) rfl rfl (by decide) in_X1 wl_1_81 rfl dX5_gatesOf_6 (?_ : SdS X 9 [(0, 15), (1, 11), (2, 16), (3, 0), (4, 0), (5, 0)] [0, 0] _)
    refine su_icmp_ge (tgt := 47) hC dX5_gatesOf_9 rfl (?_ : SdS X 47 [(0, 15), (1, 11), (2, 16), (3, 0), (4, 0), (5, 0)] [] _) (?_ : SdS X 12 [(0, 15), (1, 11), (2, 16), (3, 0), (4, 0), (5, 0)] [] _)
    · refine su_aload_n hC 15 dX5_gatesOf_47 rfl (by decide) (by decide) (?_ : SdS X 48 [(0, 15), (1, 11), (2, 16), (3, 0), (4, 0), (5, 0)] [15] _)
      refine su_getR hC (ci := 5) (j := 0) (C := RX5) (T := TX5) (N := 3) rfl rfl (by decide) in_X5 wl_2_96 rfl dX5_gatesOf_48 (?_ : SdS X 51 [(0, 15), (1, 11), (2, 16), (3, 0), (4, 0), (5, 0)] [100] _)
      refine su_ldc hC wl_5_32 dX5_gatesOf_51 ⟨by decide, by decide⟩ (?_ : SdS X 53 [(0, 15), (1, 11), (2, 16), (3, 0), (4, 0), (5, 0)] [0, 100] _)
      refine su_invsv (τ := []) (τs := [100, 0]) hC false "" WG (M_J7_fill_53178 _) rfl rfl rfl rfl wl_5_33 wl_2_188 wl_1_11 wl_2_189 hd_J7_fill_53178 (by rw [e3]; decide) (by decide) dX5_gatesOf_53 (?_ : SdS X 56 [(0, 15), (1, 11), (2, 16), (3, 0), (4, 0), (5, 0)] [] _)
      refine su_iload_n hC dX5_gatesOf_56 rfl (by decide) (?_ : SdS X 57 [(0, 15), (1, 11), (2, 16), (3, 0), (4, 0), (5, 0)] [0] _)
      refine su_if_lt (tgt := 73) hC dX5_gatesOf_57 rfl (?_ : SdS X 73 [(0, 15), (1, 11), (2, 16), (3, 0), (4, 0), (5, 0)] [] _) (?_ : SdS X 60 [(0, 15), (1, 11), (2, 16), (3, 0), (4, 0), (5, 0)] [] _)
      · exact SdS.weak (by decide) (S_73)
      · refine su_iload_n hC dX5_gatesOf_60 rfl (by decide) (?_ : SdS X 61 [(0, 15), (1, 11), (2, 16), (3, 0), (4, 0), (5, 0)] [0] _)
        refine su_bipush hC dX5_gatesOf_61 (by decide) (?_ : SdS X 63 [(0, 15), (1, 11), (2, 16), (3, 0), (4, 0), (5, 0)] [0, 0] _)
        refine su_icmp_ge (tgt := 73) hC dX5_gatesOf_63 rfl (?_ : SdS X 73 [(0, 15), (1, 11), (2, 16), (3, 0), (4, 0), (5, 0)] [] _) (?_ : SdS X 66 [(0, 15), (1, 11), (2, 16), (3, 0), (4, 0), (5, 0)] [] _)
        · exact SdS.weak (by decide) (S_73)
        · refine su_aload_n hC 15 dX5_gatesOf_66 rfl (by decide) (by decide) (?_ : SdS X 67 [(0, 15), (1, 11), (2, 16), (3, 0), (4, 0), (5, 0)] [15] _)
          refine su_getR hC (ci := 5) (j := 0) (C := RX5) (T := TX5) (N := 3) rfl rfl (by decide) in_X5 wl_2_96 rfl dX5_gatesOf_67 (?_ : SdS X 70 [(0, 15), (1, 11), (2, 16), (3, 0), (4, 0), (5, 0)] [100] _)
          refine su_iload_n hC dX5_gatesOf_70 rfl (by decide) (?_ : SdS X 71 [(0, 15), (1, 11), (2, 16), (3, 0), (4, 0), (5, 0)] [0, 100] _)
          refine su_iconst hC dX5_gatesOf_71 ⟨by decide, by decide⟩ (?_ : SdS X 72 [(0, 15), (1, 11), (2, 16), (3, 0), (4, 0), (5, 0)] [0, 0, 100] _)
          refine su_iastore hC dX5_gatesOf_72 (?_ : SdS X 73 [(0, 15), (1, 11), (2, 16), (3, 0), (4, 0), (5, 0)] [] _)
          exact SdS.weak (by decide) (S_73)
    · refine su_aload_n hC 15 dX5_gatesOf_12 rfl (by decide) (by decide) (?_ : SdS X 13 [(0, 15), (1, 11), (2, 16), (3, 0), (4, 0), (5, 0)] [15] _)
      refine su_getR hC (ci := 5) (j := 2) (C := RX5) (T := TX5) (N := 3) rfl rfl (by decide) in_X5 wl_2_98 rfl dX5_gatesOf_13 (?_ : SdS X 16 [(0, 15), (1, 11), (2, 16), (3, 0), (4, 0), (5, 0)] [100] _)
      refine su_iload hC dX5_gatesOf_16 (by decide) (?_ : SdS X 18 [(0, 15), (1, 11), (2, 16), (3, 0), (4, 0), (5, 0)] [0, 100] _)
      refine su_aload_n hC 11 dX5_gatesOf_18 rfl (by decide) (by decide) (?_ : SdS X 19 [(0, 15), (1, 11), (2, 16), (3, 0), (4, 0), (5, 0)] [11, 0, 100] _)
      refine su_aload_n hC 16 dX5_gatesOf_19 rfl (by decide) (by decide) (?_ : SdS X 20 [(0, 15), (1, 11), (2, 16), (3, 0), (4, 0), (5, 0)] [16, 11, 0, 100] _)
      refine su_iload hC dX5_gatesOf_20 (by decide) (?_ : SdS X 22 [(0, 15), (1, 11), (2, 16), (3, 0), (4, 0), (5, 0)] [0, 16, 11, 0, 100] _)
      refine su_inv0 (τ := [0, 100]) (τr := [16, 0]) (ci := 1) (q := (RX1, TX1, 12)) hC WG (M_X1_letsThrough _) rfl rfl rfl rfl  rfl rfl wl_5_30 wl_3_162 wl_3_163 wl_1_2 wl_3_164 hd_X1_letsThrough (by rw [e3]; decide) (by decide) dX5_gatesOf_22 (?_ : SdS X 25 [(0, 15), (1, 11), (2, 16), (3, 0), (4, 0), (5, 0)] [0, 0, 100] _)
      refine su_if_eq (tgt := 38) hC dX5_gatesOf_25 rfl (?_ : SdS X 38 [(0, 15), (1, 11), (2, 16), (3, 0), (4, 0), (5, 0)] [0, 100] _) (?_ : SdS X 28 [(0, 15), (1, 11), (2, 16), (3, 0), (4, 0), (5, 0)] [0, 100] _)
      · refine su_ldc hC wl_5_32 dX5_gatesOf_38 ⟨by decide, by decide⟩ (?_ : SdS X 40 [(0, 15), (1, 11), (2, 16), (3, 0), (4, 0), (5, 0)] [0, 0, 100] _)
        exact SdS.weak (by decide) (S_40 k3 h3)
      · refine su_aload_n hC 11 dX5_gatesOf_28 rfl (by decide) (by decide) (?_ : SdS X 29 [(0, 15), (1, 11), (2, 16), (3, 0), (4, 0), (5, 0)] [11, 0, 100] _)
        refine su_aload_n hC 16 dX5_gatesOf_29 rfl (by decide) (by decide) (?_ : SdS X 30 [(0, 15), (1, 11), (2, 16), (3, 0), (4, 0), (5, 0)] [16, 11, 0, 100] _)
        refine su_iload hC dX5_gatesOf_30 (by decide) (?_ : SdS X 32 [(0, 15), (1, 11), (2, 16), (3, 0), (4, 0), (5, 0)] [0, 16, 11, 0, 100] _)
        refine su_inv0 (τ := [0, 100]) (τr := [16, 0]) (ci := 1) (q := (RX1, TX1, 12)) hC WG (M_X1_loadingHours _) rfl rfl rfl rfl  rfl rfl wl_5_31 wl_3_183 wl_3_184 wl_1_2 wl_3_185 hd_X1_loadingHours (by rw [e3]; decide) (by decide) dX5_gatesOf_32 (?_ : SdS X 35 [(0, 15), (1, 11), (2, 16), (3, 0), (4, 0), (5, 0)] [0, 0, 100] _)
        refine su_goto (tgt := 40) hC dX5_gatesOf_35 rfl (?_ : SdS X 40 [(0, 15), (1, 11), (2, 16), (3, 0), (4, 0), (5, 0)] [0, 0, 100] _)
        exact SdS.weak (by decide) (S_40 k3 h3)
  refine (?_ : SdS X 0 [(0, 15), (1, 11), (2, 16), (3, 0), (4, 0)] [] (E_X5_gatesOf Q))
  unfold E_X5_gatesOf
  refine su_iconst hC dX5_gatesOf_0 ⟨by decide, by decide⟩ (?_ : SdS X 1 [(0, 15), (1, 11), (2, 16), (3, 0), (4, 0)] [0] _)
  refine su_istore (Γ' := [(0, 15), (1, 11), (2, 16), (3, 0), (4, 0), (5, 0)]) hC dX5_gatesOf_1 (by rw [e2]; decide) (by decide) (?_ : SdS X 3 [(0, 15), (1, 11), (2, 16), (3, 0), (4, 0), (5, 0)] [] _)
  exact SdS.weak (by decide) (S_3)
theorem wl_2_95 : Cond.methodLink RX5 5 Lib.objectInit ∈ WALL := tb2 (List.mem_of_getElem? (i := 95) rfl) rfl
theorem hd_X5_init : yX5_init.cls ≠ "java/lang/invoke/MethodHandle" ∧ yX5_init.cls ≠ "java/lang/invoke/VarHandle" ∧ (parseMethodDescriptor yX5_init.desc).map (fun d => d.parameters.length) = some 0 := by decide +kernel
set_option maxRecDepth 100000 in
set_option maxHeartbeats 4000000 in
theorem M_X5_init (l : Launch) : MtS l yX5_init (Cond.code yX5_init cX5_init 1 none :: WALL) { frames := 1, cells := 3, slots := 155, locals := 20 } [15] none T_X5_init := by
  refine MtS.mk (B := E_X5_init) (by decide +kernel) (by decide) (fun _ _ _ hh => hh) ?_
  intro X Q e1 e2 e3 hC hN hT
  subst e1
  have hC : CF X cX5_init RX5 WALL := hC
  refine (?_ : SdS X 0 [(0, 15)] [] (E_X5_init Q))
  unfold E_X5_init
  refine su_aload_n hC 15 dX5_init_0 rfl (by decide) (by decide) (?_ : SdS X 1 [(0, 15)] [15] _)
  refine su_objInit hC (by decide) wl_2_95 wl_1_29 wl_1_30 (by rw [e3]; decide) (by decide) dX5_init_1 (?_ : SdS X 4 [(0, 15)] [] _)
  refine su_aload_n hC 15 dX5_init_4 rfl (by decide) (by decide) (?_ : SdS X 5 [(0, 15)] [15] _)
  refine su_bipush hC dX5_init_5 (by decide) (?_ : SdS X 7 [(0, 15)] [0, 15] _)
  refine su_newa hC (atype := .int) (e := 0) (List.mem_of_getElem? (i := 0) rfl) (fun C z => by cases z) rfl (by decide) wl_1_76 (by rw [e3]) (by rw [e3]) dX5_init_7 (?_ : SdS X 9 [(0, 15)] [100, 15] _)
  refine su_putRF hC (ci := 5) (j := 0) (C := RX5) (T := TX5) (N := 3) tyX5 tyX5_ok nmX5 rfl rfl (by decide) in_X5 rfl rfl rfl hN wl_2_96 rfl dX5_init_9 (?_ : SdS X 12 [(0, 15)] [] _)
  refine su_aload_n hC 15 dX5_init_12 rfl (by decide) (by decide) (?_ : SdS X 13 [(0, 15)] [15] _)
  refine su_bipush hC dX5_init_13 (by decide) (?_ : SdS X 15 [(0, 15)] [0, 15] _)
  refine su_newa hC (atype := .int) (e := 0) (List.mem_of_getElem? (i := 0) rfl) (fun C z => by cases z) rfl (by decide) wl_1_76 (by rw [e3]) (by rw [e3]) dX5_init_15 (?_ : SdS X 17 [(0, 15)] [100, 15] _)
  refine su_putRF hC (ci := 5) (j := 1) (C := RX5) (T := TX5) (N := 3) tyX5 tyX5_ok nmX5 rfl rfl (by decide) in_X5 rfl rfl rfl hN wl_2_97 rfl dX5_init_17 (?_ : SdS X 20 [(0, 15)] [] _)
  refine su_aload_n hC 15 dX5_init_20 rfl (by decide) (by decide) (?_ : SdS X 21 [(0, 15)] [15] _)
  refine su_bipush hC dX5_init_21 (by decide) (?_ : SdS X 23 [(0, 15)] [0, 15] _)
  refine su_newa hC (atype := .int) (e := 0) (List.mem_of_getElem? (i := 0) rfl) (fun C z => by cases z) rfl (by decide) wl_1_76 (by rw [e3]) (by rw [e3]) dX5_init_23 (?_ : SdS X 25 [(0, 15)] [100, 15] _)
  refine su_putRF hC (ci := 5) (j := 2) (C := RX5) (T := TX5) (N := 3) tyX5 tyX5_ok nmX5 rfl rfl (by decide) in_X5 rfl rfl rfl hN wl_2_98 rfl dX5_init_25 (?_ : SdS X 28 [(0, 15)] [] _)
  exact su_return hC hT dX5_init_28
theorem wl_1_231 : Cond.methodLink RX7 1 Lib.objectInit ∈ WALL := tb1 (List.mem_of_getElem? (i := 231) rfl) rfl
theorem wl_2_10 : Cond.fieldLink RX7 9 "NarrowRings$Way" "gate" "[I" ∈ WALL := tb2 (List.mem_of_getElem? (i := 10) rfl) rfl
theorem hd_X7_init : yX7_init.cls ≠ "java/lang/invoke/MethodHandle" ∧ yX7_init.cls ≠ "java/lang/invoke/VarHandle" ∧ (parseMethodDescriptor yX7_init.desc).map (fun d => d.parameters.length) = some 0 := by decide +kernel
set_option maxRecDepth 100000 in
set_option maxHeartbeats 4000000 in
theorem M_X7_init (l : Launch) : MtS l yX7_init (Cond.code yX7_init cX7_init 1 none :: WALL) { frames := 1, cells := 1, slots := 5, locals := 20 } [17] none T_X7_init := by
  refine MtS.mk (B := E_X7_init) (by decide +kernel) (by decide) (fun _ _ _ hh => hh) ?_
  intro X Q e1 e2 e3 hC hN hT
  subst e1
  have hC : CF X cX7_init RX7 WALL := hC
  refine (?_ : SdS X 0 [(0, 17)] [] (E_X7_init Q))
  unfold E_X7_init
  refine su_aload_n hC 17 dX7_init_0 rfl (by decide) (by decide) (?_ : SdS X 1 [(0, 17)] [17] _)
  refine su_objInit hC (by decide) wl_1_231 wl_1_29 wl_1_30 (by rw [e3]; decide) (by decide) dX7_init_1 (?_ : SdS X 4 [(0, 17)] [] _)
  refine su_aload_n hC 17 dX7_init_4 rfl (by decide) (by decide) (?_ : SdS X 5 [(0, 17)] [17] _)
  refine su_iconst hC dX7_init_5 ⟨by decide, by decide⟩ (?_ : SdS X 6 [(0, 17)] [0, 17] _)
  refine su_newa hC (atype := .int) (e := 0) (List.mem_of_getElem? (i := 0) rfl) (fun C z => by cases z) rfl (by decide) wl_1_76 (by rw [e3]) (by rw [e3]) dX7_init_6 (?_ : SdS X 8 [(0, 17)] [100, 17] _)
  refine su_putRF hC (ci := 7) (j := 6) (C := RX7) (T := TX7) (N := 7) tyX7 tyX7_ok nmX7 rfl rfl (by decide) in_X7 rfl rfl rfl hN wl_2_10 rfl dX7_init_8 (?_ : SdS X 11 [(0, 17)] [] _)
  exact su_return hC hT dX7_init_11
theorem wl_2_110 : Cond.fieldLink RX8 16 "NarrowRings" "city" "LNarrowRings$City;" ∈ WALL := tb2 (List.mem_of_getElem? (i := 110) rfl) rfl
theorem wl_1_79 : Cond.fieldLink RX8 120 "NarrowRings$City" "rings" "I" ∈ WALL := tb1 (List.mem_of_getElem? (i := 79) rfl) rfl
theorem hd_X8_isCity : yX8_isCity.cls ≠ "java/lang/invoke/MethodHandle" ∧ yX8_isCity.cls ≠ "java/lang/invoke/VarHandle" ∧ (parseMethodDescriptor yX8_isCity.desc).map (fun d => d.parameters.length) = some 0 := by decide +kernel
set_option maxRecDepth 100000 in
set_option maxHeartbeats 4000000 in
theorem M_X8_isCity (l : Launch) : MtS l yX8_isCity (Cond.code yX8_isCity cX8_isCity 1 (some .boolean) :: WALL) { frames := 0, cells := 0, slots := 0, locals := 0 } [18] (some 0) T_X8_isCity := by
  refine MtS.mk (B := E_X8_isCity) (by decide +kernel) (by decide) (fun _ _ _ hh => hh) ?_
  intro X Q e1 e2 e3 hC hN hT
  subst e1
  have hC : CF X cX8_isCity RX8 WALL := hC
  have S_15 : SdS X 15 [(0, 18)] [0] (B_X8_isCity_15 Q) := by
    unfold B_X8_isCity_15
    exact su_zreturn hC hT dX8_isCity_15
  refine (?_ : SdS X 0 [(0, 18)] [] (E_X8_isCity Q))
  unfold E_X8_isCity
  refine su_aload_n hC 18 dX8_isCity_0 rfl (by decide) (by decide) (?_ : SdS X 1 [(0, 18)] [18] _)
  refine su_getR hC (ci := 8) (j := 2) (C := RX8) (T := TX8) (N := 18) rfl rfl (by decide) in_X8 wl_2_110 rfl dX8_isCity_1 (?_ : SdS X 4 [(0, 18)] [11] _)
  refine su_getF hC (ci := 1) (j := 0) (C := RX1) (T := TX1) (N := 12) rfl rfl (by decide) in_X1 wl_1_79 rfl dX8_isCity_4 (?_ : SdS X 7 [(0, 18)] [0] _)
  refine su_if_le (tgt := 14) hC dX8_isCity_7 rfl (?_ : SdS X 14 [(0, 18)] [] _) (?_ : SdS X 10 [(0, 18)] [] _)
  · refine su_iconst hC dX8_isCity_14 ⟨by decide, by decide⟩ (?_ : SdS X 15 [(0, 18)] [0] _)
    exact SdS.weak (by decide) (S_15)
  · refine su_iconst hC dX8_isCity_10 ⟨by decide, by decide⟩ (?_ : SdS X 11 [(0, 18)] [0] _)
    refine su_goto (tgt := 15) hC dX8_isCity_11 rfl (?_ : SdS X 15 [(0, 18)] [0] _)
    exact SdS.weak (by decide) (S_15)
theorem wl_2_125 : Cond.fieldLink RX8 126 "NarrowRings" "trouble" "I" ∈ WALL := tb2 (List.mem_of_getElem? (i := 125) rfl) rfl
theorem hd_X8_refuse : yX8_refuse.cls ≠ "java/lang/invoke/MethodHandle" ∧ yX8_refuse.cls ≠ "java/lang/invoke/VarHandle" ∧ (parseMethodDescriptor yX8_refuse.desc).map (fun d => d.parameters.length) = some 1 := by decide +kernel
set_option maxRecDepth 100000 in
set_option maxHeartbeats 4000000 in
theorem M_X8_refuse (l : Launch) : MtS l yX8_refuse (Cond.code yX8_refuse cX8_refuse 2 (some .int) :: WALL) { frames := 0, cells := 0, slots := 0, locals := 0 } [18, 0] (some 0) T_X8_refuse := by
  refine MtS.mk (B := E_X8_refuse) (by decide +kernel) (by decide) (fun _ _ _ hh => hh) ?_
  intro X Q e1 e2 e3 hC hN hT
  subst e1
  have hC : CF X cX8_refuse RX8 WALL := hC
  refine (?_ : SdS X 0 [(0, 18), (1, 0)] [] (E_X8_refuse Q))
  unfold E_X8_refuse
  refine su_aload_n hC 18 dX8_refuse_0 rfl (by decide) (by decide) (?_ : SdS X 1 [(0, 18), (1, 0)] [18] _)
  refine su_iload_n hC dX8_refuse_1 rfl (by decide) (?_ : SdS X 2 [(0, 18), (1, 0)] [0, 18] _)
  refine su_putF hC (ci := 8) (j := 17) (C := RX8) (T := TX8) (N := 18) tyX8 tyX8_ok nmX8 rfl rfl (by decide) in_X8 rfl rfl wl_2_125 rfl dX8_refuse_2 (?_ : SdS X 5 [(0, 18), (1, 0)] [] _)
  refine su_iconst hC dX8_refuse_5 ⟨by decide, by decide⟩ (?_ : SdS X 6 [(0, 18), (1, 0)] [0] _)
  exact su_ireturn hC hT dX8_refuse_6
theorem wl_1_98 : Cond.fieldLink RX8 293 "NarrowRings$City" "orders" "I" ∈ WALL := tb1 (List.mem_of_getElem? (i := 98) rfl) rfl
theorem wl_2_114 : Cond.fieldLink RX8 43 "NarrowRings" "ways" "[LNarrowRings$Way;" ∈ WALL := tb2 (List.mem_of_getElem? (i := 114) rfl) rfl
theorem wl_1_235 : Cond.fieldLink RX8 181 "NarrowRings$Way" "found" "Z" ∈ WALL := tb1 (List.mem_of_getElem? (i := 235) rfl) rfl
theorem wl_2_0 : Cond.fieldLink RX8 185 "NarrowRings$Way" "pay" "I" ∈ WALL := tb2 (List.mem_of_getElem? (i := 0) rfl) rfl
theorem hd_X8_allPay : yX8_allPay.cls ≠ "java/lang/invoke/MethodHandle" ∧ yX8_allPay.cls ≠ "java/lang/invoke/VarHandle" ∧ (parseMethodDescriptor yX8_allPay.desc).map (fun d => d.parameters.length) = some 0 := by decide +kernel
set_option maxRecDepth 100000 in
set_option maxHeartbeats 4000000 in
theorem M_X8_allPay (l : Launch) : MtS l yX8_allPay (Cond.code yX8_allPay cX8_allPay 3 (some .int) :: WALL) { frames := 0, cells := 0, slots := 0, locals := 0 } [18] (some 0) T_X8_allPay := by
  refine MtS.mk (B := E_X8_allPay) (by decide +kernel) (by decide) (fun _ _ _ hh => hh) ?_
  intro X Q e1 e2 e3 hC hN hT
  subst e1
  have hC : CF X cX8_allPay RX8 WALL := hC
  have S_43 : ∀ (k4 : xK), SdS X 4 [(0, 18), (1, 0), (2, 0)] [] k4 → SdS X 43 [(0, 18), (1, 0), (2, 0)] [0, 0] (B_X8_allPay_43 Q k4) := by
    intro k4 h4
    unfold B_X8_allPay_43
    refine su_iadd hC dX8_allPay_43 (?_ : SdS X 44 [(0, 18), (1, 0), (2, 0)] [0] _)
    refine su_istore_n (Γ' := [(0, 18), (1, 0), (2, 0)]) hC dX8_allPay_44 rfl (by rw [e2]; decide) (by decide) (?_ : SdS X 45 [(0, 18), (1, 0), (2, 0)] [] _)
    refine su_iinc (Γ' := [(0, 18), (1, 0), (2, 0)]) hC dX8_allPay_45 (by decide) (by rw [e2]; decide) (by decide) (?_ : SdS X 48 [(0, 18), (1, 0), (2, 0)] [] _)
    refine su_goto (tgt := 4) hC dX8_allPay_48 rfl (?_ : SdS X 4 [(0, 18), (1, 0), (2, 0)] [] _)
    exact SdS.weak (by decide) h4
  have S_4 : SdS X 4 [(0, 18), (1, 0), (2, 0)] [] (L_X8_allPay_4 Q) := by
    unfold L_X8_allPay_4
    refine SdS.loop (fun k4 h4 => ?_)
    refine su_iload_n hC dX8_allPay_4 rfl (by decide) (?_ : SdS X 5 [(0, 18), (1, 0), (2, 0)] [0] _)
    refine su_aload_n hC 18 dX8_allPay_5 rfl (by decide) (by decide) (?_ : SdS X 6 [(0, 18), (1, 0), (2, 0)] [18, 0] _)
    refine su_getR hC (ci := 8) (j := 2) (C := RX8) (T := TX8) (N := 18) rfl rfl (by decide) in_X8 wl_2_110 rfl dX8_allPay_6 (?_ : SdS X 9 [(0, 18), (1, 0), (2, 0)] [11, 0] _)
    refine su_getF hC (ci := 1) (j := 4) (C := RX1) (T := TX1) (N := 12) rfl rfl (by decide) in_X1 wl_1_98 rfl dX8_allPay_9 (?_ : SdS X 12 [(0, 18), (1, 0), (2, 0)] [0, 0] _)
    refine su_icmp_ge (tgt := 51) hC dX8_allPay_12 rfl (?_ : SdS X 51 [(0, 18), (1, 0), (2, 0)] [] _) (?_ : SdS X 15 [(0, 18), (1, 0), (2, 0)] [] _)
    · refine su_iload_n hC dX8_allPay_51 rfl (by decide) (?_ : SdS X 52 [(0, 18), (1, 0), (2, 0)] [0] _)
      exact su_ireturn hC hT dX8_allPay_52
    · refine su_iload_n hC dX8_allPay_15 rfl (by decide) (?_ : SdS X 16 [(0, 18), (1, 0), (2, 0)] [0] _)
      refine su_aload_n hC 18 dX8_allPay_16 rfl (by decide) (by decide) (?_ : SdS X 17 [(0, 18), (1, 0), (2, 0)] [18, 0] _)
      refine su_getR hC (ci := 8) (j := 6) (C := RX8) (T := TX8) (N := 18) rfl rfl (by decide) in_X8 wl_2_114 rfl dX8_allPay_17 (?_ : SdS X 20 [(0, 18), (1, 0), (2, 0)] [117, 0] _)
      refine su_iload_n hC dX8_allPay_20 rfl (by decide) (?_ : SdS X 21 [(0, 18), (1, 0), (2, 0)] [0, 117, 0] _)
      refine su_aaload (e := 17) hC (List.mem_of_getElem? (i := 6) rfl) rfl rfl rfl dX8_allPay_21 (?_ : SdS X 22 [(0, 18), (1, 0), (2, 0)] [17, 0] _)
      refine su_getF hC (ci := 7) (j := 0) (C := RX7) (T := TX7) (N := 7) rfl rfl (by decide) in_X7 wl_1_235 rfl dX8_allPay_22 (?_ : SdS X 25 [(0, 18), (1, 0), (2, 0)] [0, 0] _)
      refine su_if_eq (tgt := 40) hC dX8_allPay_25 rfl (?_ : SdS X 40 [(0, 18), (1, 0), (2, 0)] [0] _) (?_ : SdS X 28 [(0, 18), (1, 0), (2, 0)] [0] _)
      · refine su_sipush hC dX8_allPay_40 (by decide) (?_ : SdS X 43 [(0, 18), (1, 0), (2, 0)] [0, 0] _)
        exact SdS.weak (by decide) (S_43 k4 h4)
      · refine su_aload_n hC 18 dX8_allPay_28 rfl (by decide) (by decide) (?_ : SdS X 29 [(0, 18), (1, 0), (2, 0)] [18, 0] _)
        refine su_getR hC (ci := 8) (j := 6) (C := RX8) (T := TX8) (N := 18) rfl rfl (by decide) in_X8 wl_2_114 rfl dX8_allPay_29 (?_ : SdS X 32 [(0, 18), (1, 0), (2, 0)] [117, 0] _)
        refine su_iload_n hC dX8_allPay_32 rfl (by decide) (?_ : SdS X 33 [(0, 18), (1, 0), (2, 0)] [0, 117, 0] _)
        refine su_aaload (e := 17) hC (List.mem_of_getElem? (i := 6) rfl) rfl rfl rfl dX8_allPay_33 (?_ : SdS X 34 [(0, 18), (1, 0), (2, 0)] [17, 0] _)
        refine su_getF hC (ci := 7) (j := 2) (C := RX7) (T := TX7) (N := 7) rfl rfl (by decide) in_X7 wl_2_0 rfl dX8_allPay_34 (?_ : SdS X 37 [(0, 18), (1, 0), (2, 0)] [0, 0] _)
        refine su_goto (tgt := 43) hC dX8_allPay_37 rfl (?_ : SdS X 43 [(0, 18), (1, 0), (2, 0)] [0, 0] _)
        exact SdS.weak (by decide) (S_43 k4 h4)
  refine (?_ : SdS X 0 [(0, 18)] [] (E_X8_allPay Q))
  unfold E_X8_allPay
  refine su_iconst hC dX8_allPay_0 ⟨by decide, by decide⟩ (?_ : SdS X 1 [(0, 18)] [0] _)
  refine su_istore_n (Γ' := [(0, 18), (1, 0)]) hC dX8_allPay_1 rfl (by rw [e2]; decide) (by decide) (?_ : SdS X 2 [(0, 18), (1, 0)] [] _)
  refine su_iconst hC dX8_allPay_2 ⟨by decide, by decide⟩ (?_ : SdS X 3 [(0, 18), (1, 0)] [0] _)
  refine su_istore_n (Γ' := [(0, 18), (1, 0), (2, 0)]) hC dX8_allPay_3 rfl (by rw [e2]; decide) (by decide) (?_ : SdS X 4 [(0, 18), (1, 0), (2, 0)] [] _)
  exact SdS.weak (by decide) (S_4)
theorem hd_X8_grant : yX8_grant.cls ≠ "java/lang/invoke/MethodHandle" ∧ yX8_grant.cls ≠ "java/lang/invoke/VarHandle" ∧ (parseMethodDescriptor yX8_grant.desc).map (fun d => d.parameters.length) = some 1 := by decide +kernel
set_option maxRecDepth 100000 in
set_option maxHeartbeats 4000000 in
theorem M_X8_grant (l : Launch) : MtS l yX8_grant (Cond.code yX8_grant cX8_grant 2 (some .int) :: WALL) { frames := 0, cells := 0, slots := 0, locals := 0 } [18, 0] (some 0) T_X8_grant := by
  refine MtS.mk (B := E_X8_grant) (by decide +kernel) (by decide) (fun _ _ _ hh => hh) ?_
  intro X Q e1 e2 e3 hC hN hT
  subst e1
  have hC : CF X cX8_grant RX8 WALL := hC
  refine (?_ : SdS X 0 [(0, 18), (1, 0)] [] (E_X8_grant Q))
  unfold E_X8_grant
  refine su_aload_n hC 18 dX8_grant_0 rfl (by decide) (by decide) (?_ : SdS X 1 [(0, 18), (1, 0)] [18] _)
  refine su_iconst hC dX8_grant_1 ⟨by decide, by decide⟩ (?_ : SdS X 2 [(0, 18), (1, 0)] [0, 18] _)
  refine su_putF hC (ci := 8) (j := 17) (C := RX8) (T := TX8) (N := 18) tyX8 tyX8_ok nmX8 rfl rfl (by decide) in_X8 rfl rfl wl_2_125 rfl dX8_grant_2 (?_ : SdS X 5 [(0, 18), (1, 0)] [] _)
  refine su_iload_n hC dX8_grant_5 rfl (by decide) (?_ : SdS X 6 [(0, 18), (1, 0)] [0] _)
  exact su_ireturn hC hT dX8_grant_6
theorem wl_4_99 : Cond.methodLink RX8 202 yX8_isCity ∈ WALL := tb4 (List.mem_of_getElem? (i := 99) rfl) rfl
theorem wl_4_101 : Cond.instanceMethod yX8_isCity ∈ WALL := tb4 (List.mem_of_getElem? (i := 101) rfl) rfl
theorem wp_43 : Cond.selects RX8 yX8_isCity yX8_isCity ∈ WALL := tbS (List.mem_of_getElem? (i := 43) rfl)
theorem wl_4_102 : Cond.code yX8_isCity cX8_isCity 1 (some .boolean) ∈ WALL := tb4 (List.mem_of_getElem? (i := 102) rfl) rfl
theorem wl_4_103 : Cond.methodLink RX8 206 yX8_allPay ∈ WALL := tb4 (List.mem_of_getElem? (i := 103) rfl) rfl
theorem wl_4_105 : Cond.instanceMethod yX8_allPay ∈ WALL := tb4 (List.mem_of_getElem? (i := 105) rfl) rfl
theorem wp_44 : Cond.selects RX8 yX8_allPay yX8_allPay ∈ WALL := tbS (List.mem_of_getElem? (i := 44) rfl)
theorem wl_4_106 : Cond.code yX8_allPay cX8_allPay 3 (some .int) ∈ WALL := tb4 (List.mem_of_getElem? (i := 106) rfl) rfl
theorem wl_3_225 : Cond.methodLink RX8 123 yX8_grant ∈ WALL := tb3 (List.mem_of_getElem? (i := 225) rfl) rfl
theorem wl_3_227 : Cond.instanceMethod yX8_grant ∈ WALL := tb3 (List.mem_of_getElem? (i := 227) rfl) rfl
theorem wp_34 : Cond.selects RX8 yX8_grant yX8_grant ∈ WALL := tbS (List.mem_of_getElem? (i := 34) rfl)
theorem wl_3_228 : Cond.code yX8_grant cX8_grant 2 (some .int) ∈ WALL := tb3 (List.mem_of_getElem? (i := 228) rfl) rfl
theorem wl_2_175 : Cond.methodLink RX8 97 yX8_refuse ∈ WALL := tb2 (List.mem_of_getElem? (i := 175) rfl) rfl
theorem wl_2_177 : Cond.instanceMethod yX8_refuse ∈ WALL := tb2 (List.mem_of_getElem? (i := 177) rfl) rfl
theorem wp_1 : Cond.selects RX8 yX8_refuse yX8_refuse ∈ WALL := tbS (List.mem_of_getElem? (i := 1) rfl)
theorem wl_2_178 : Cond.code yX8_refuse cX8_refuse 2 (some .int) ∈ WALL := tb2 (List.mem_of_getElem? (i := 178) rfl) rfl
theorem hd_X8_all : yX8_all.cls ≠ "java/lang/invoke/MethodHandle" ∧ yX8_all.cls ≠ "java/lang/invoke/VarHandle" ∧ (parseMethodDescriptor yX8_all.desc).map (fun d => d.parameters.length) = some 0 := by decide +kernel
set_option maxRecDepth 100000 in
set_option maxHeartbeats 4000000 in
theorem M_X8_all (l : Launch) : MtS l yX8_all (Cond.code yX8_all cX8_all 1 (some .int) :: WALL) { frames := 1, cells := 0, slots := 0, locals := 22 } [18] (some 0) T_X8_all := by
  refine MtS.mk (B := E_X8_all) (by decide +kernel) (by decide) (fun _ _ _ hh => hh) ?_
  intro X Q e1 e2 e3 hC hN hT
  subst e1
  have hC : CF X cX8_all RX8 WALL := hC
  refine (?_ : SdS X 0 [(0, 18)] [] (E_X8_all Q))
  unfold E_X8_all
  refine su_aload_n hC 18 dX8_all_0 rfl (by decide) (by decide) (?_ : SdS X 1 [(0, 18)] [18] _)
  refine su_inv0 (τ := []) (τr := []) (ci := 8) (q := (RX8, TX8, 18)) hC WG (M_X8_isCity _) rfl rfl rfl rfl  rfl rfl wl_4_99 wl_4_101 wp_43 wl_1_1 wl_4_102 hd_X8_isCity (by rw [e3]; decide) (by decide) dX8_all_1 (?_ : SdS X 4 [(0, 18)] [0] _)
  refine su_if_ne (tgt := 13) hC dX8_all_4 rfl (?_ : SdS X 13 [(0, 18)] [] _) (?_ : SdS X 7 [(0, 18)] [] _)
  · refine su_aload_n hC 18 dX8_all_13 rfl (by decide) (by decide) (?_ : SdS X 14 [(0, 18)] [18] _)
    refine su_aload_n hC 18 dX8_all_14 rfl (by decide) (by decide) (?_ : SdS X 15 [(0, 18)] [18, 18] _)
    refine su_inv0 (τ := [18]) (τr := []) (ci := 8) (q := (RX8, TX8, 18)) hC WG (M_X8_allPay _) rfl rfl rfl rfl  rfl rfl wl_4_103 wl_4_105 wp_44 wl_1_1 wl_4_106 hd_X8_allPay (by rw [e3]; decide) (by decide) dX8_all_15 (?_ : SdS X 18 [(0, 18)] [0, 18] _)
    refine su_inv0 (τ := []) (τr := [0]) (ci := 8) (q := (RX8, TX8, 18)) hC WG (M_X8_grant _) rfl rfl rfl rfl  rfl rfl wl_3_225 wl_3_227 wp_34 wl_1_1 wl_3_228 hd_X8_grant (by rw [e3]; decide) (by decide) dX8_all_18 (?_ : SdS X 21 [(0, 18)] [0] _)
    exact su_ireturn hC hT dX8_all_21
  · refine su_aload_n hC 18 dX8_all_7 rfl (by decide) (by decide) (?_ : SdS X 8 [(0, 18)] [18] _)
    refine su_iconst hC dX8_all_8 ⟨by decide, by decide⟩ (?_ : SdS X 9 [(0, 18)] [0, 18] _)
    refine su_inv0 (τ := []) (τr := [0]) (ci := 8) (q := (RX8, TX8, 18)) hC WG (M_X8_refuse _) rfl rfl rfl rfl  rfl rfl wl_2_175 wl_2_177 wp_1 wl_1_1 wl_2_178 hd_X8_refuse (by rw [e3]; decide) (by decide) dX8_all_9 (?_ : SdS X 12 [(0, 18)] [0] _)
    exact su_ireturn hC hT dX8_all_12
theorem hd_X8_allow : yX8_allow.cls ≠ "java/lang/invoke/MethodHandle" ∧ yX8_allow.cls ≠ "java/lang/invoke/VarHandle" ∧ (parseMethodDescriptor yX8_allow.desc).map (fun d => d.parameters.length) = some 0 := by decide +kernel
set_option maxRecDepth 100000 in
set_option maxHeartbeats 4000000 in
theorem M_X8_allow (l : Launch) : MtS l yX8_allow (Cond.code yX8_allow cX8_allow 1 (some .boolean) :: WALL) { frames := 0, cells := 0, slots := 0, locals := 0 } [18] (some 0) T_X8_allow := by
  refine MtS.mk (B := E_X8_allow) (by decide +kernel) (by decide) (fun _ _ _ hh => hh) ?_
  intro X Q e1 e2 e3 hC hN hT
  subst e1
  have hC : CF X cX8_allow RX8 WALL := hC
  refine (?_ : SdS X 0 [(0, 18)] [] (E_X8_allow Q))
  unfold E_X8_allow
  refine su_aload_n hC 18 dX8_allow_0 rfl (by decide) (by decide) (?_ : SdS X 1 [(0, 18)] [18] _)
  refine su_iconst hC dX8_allow_1 ⟨by decide, by decide⟩ (?_ : SdS X 2 [(0, 18)] [0, 18] _)
  refine su_putF hC (ci := 8) (j := 17) (C := RX8) (T := TX8) (N := 18) tyX8 tyX8_ok nmX8 rfl rfl (by decide) in_X8 rfl rfl wl_2_125 rfl dX8_allow_2 (?_ : SdS X 5 [(0, 18)] [] _)
  refine su_iconst hC dX8_allow_5 ⟨by decide, by decide⟩ (?_ : SdS X 6 [(0, 18)] [0] _)
  exact su_zreturn hC hT dX8_allow_6
theorem hd_X8_deny : yX8_deny.cls ≠ "java/lang/invoke/MethodHandle" ∧ yX8_deny.cls ≠ "java/lang/invoke/VarHandle" ∧ (parseMethodDescriptor yX8_deny.desc).map (fun d => d.parameters.length) = some 1 := by decide +kernel
set_option maxRecDepth 100000 in
set_option maxHeartbeats 4000000 in
theorem M_X8_deny (l : Launch) : MtS l yX8_deny (Cond.code yX8_deny cX8_deny 2 (some .boolean) :: WALL) { frames := 0, cells := 0, slots := 0, locals := 0 } [18, 0] (some 0) T_X8_deny := by
  refine MtS.mk (B := E_X8_deny) (by decide +kernel) (by decide) (fun _ _ _ hh => hh) ?_
  intro X Q e1 e2 e3 hC hN hT
  subst e1
  have hC : CF X cX8_deny RX8 WALL := hC
  refine (?_ : SdS X 0 [(0, 18), (1, 0)] [] (E_X8_deny Q))
  unfold E_X8_deny
  refine su_aload_n hC 18 dX8_deny_0 rfl (by decide) (by decide) (?_ : SdS X 1 [(0, 18), (1, 0)] [18] _)
  refine su_iload_n hC dX8_deny_1 rfl (by decide) (?_ : SdS X 2 [(0, 18), (1, 0)] [0, 18] _)
  refine su_putF hC (ci := 8) (j := 17) (C := RX8) (T := TX8) (N := 18) tyX8 tyX8_ok nmX8 rfl rfl (by decide) in_X8 rfl rfl wl_2_125 rfl dX8_deny_2 (?_ : SdS X 5 [(0, 18), (1, 0)] [] _)
  refine su_iconst hC dX8_deny_5 ⟨by decide, by decide⟩ (?_ : SdS X 6 [(0, 18), (1, 0)] [0] _)
  exact su_zreturn hC hT dX8_deny_6
theorem wl_2_117 : Cond.fieldLink RX8 60 "NarrowRings" "day" "LNarrowRings$Day;" ∈ WALL := tb2 (List.mem_of_getElem? (i := 117) rfl) rfl
theorem wl_3_216 : Cond.methodLink RX8 219 yX2_begin ∈ WALL := tb3 (List.mem_of_getElem? (i := 216) rfl) rfl
theorem wl_3_217 : Cond.instanceMethod yX2_begin ∈ WALL := tb3 (List.mem_of_getElem? (i := 217) rfl) rfl
theorem wl_3_218 : Cond.selects RX2 yX2_begin yX2_begin ∈ WALL := tb3 (List.mem_of_getElem? (i := 218) rfl) rfl
theorem wl_3_219 : Cond.code yX2_begin cX2_begin 6 none ∈ WALL := tb3 (List.mem_of_getElem? (i := 219) rfl) rfl
theorem wl_4_171 : Cond.methodLink RX8 222 yX8_allow ∈ WALL := tb4 (List.mem_of_getElem? (i := 171) rfl) rfl
theorem wl_4_173 : Cond.instanceMethod yX8_allow ∈ WALL := tb4 (List.mem_of_getElem? (i := 173) rfl) rfl
theorem wp_57 : Cond.selects RX8 yX8_allow yX8_allow ∈ WALL := tbS (List.mem_of_getElem? (i := 57) rfl)
theorem wl_4_174 : Cond.code yX8_allow cX8_allow 1 (some .boolean) ∈ WALL := tb4 (List.mem_of_getElem? (i := 174) rfl) rfl
theorem wl_4_167 : Cond.methodLink RX8 216 yX8_deny ∈ WALL := tb4 (List.mem_of_getElem? (i := 167) rfl) rfl
theorem wl_4_169 : Cond.instanceMethod yX8_deny ∈ WALL := tb4 (List.mem_of_getElem? (i := 169) rfl) rfl
theorem wp_56 : Cond.selects RX8 yX8_deny yX8_deny ∈ WALL := tbS (List.mem_of_getElem? (i := 56) rfl)
theorem wl_4_170 : Cond.code yX8_deny cX8_deny 2 (some .boolean) ∈ WALL := tb4 (List.mem_of_getElem? (i := 170) rfl) rfl
theorem hd_X8_anew : yX8_anew.cls ≠ "java/lang/invoke/MethodHandle" ∧ yX8_anew.cls ≠ "java/lang/invoke/VarHandle" ∧ (parseMethodDescriptor yX8_anew.desc).map (fun d => d.parameters.length) = some 0 := by decide +kernel
set_option maxRecDepth 100000 in
set_option maxHeartbeats 4000000 in
theorem M_X8_anew (l : Launch) : MtS l yX8_anew (Cond.code yX8_anew cX8_anew 1 (some .boolean) :: WALL) { frames := 2, cells := 0, slots := 0, locals := 48 } [18] (some 0) T_X8_anew := by
  refine MtS.mk (B := E_X8_anew) (by decide +kernel) (by decide) (fun _ _ _ hh => hh) ?_
  intro X Q e1 e2 e3 hC hN hT
  subst e1
  have hC : CF X cX8_anew RX8 WALL := hC
  refine (?_ : SdS X 0 [(0, 18)] [] (E_X8_anew Q))
  unfold E_X8_anew
  refine su_aload_n hC 18 dX8_anew_0 rfl (by decide) (by decide) (?_ : SdS X 1 [(0, 18)] [18] _)
  refine su_inv0 (τ := []) (τr := []) (ci := 8) (q := (RX8, TX8, 18)) hC WG (M_X8_isCity _) rfl rfl rfl rfl  rfl rfl wl_4_99 wl_4_101 wp_43 wl_1_1 wl_4_102 hd_X8_isCity (by rw [e3]; decide) (by decide) dX8_anew_1 (?_ : SdS X 4 [(0, 18)] [0] _)
  refine su_if_ne (tgt := 13) hC dX8_anew_4 rfl (?_ : SdS X 13 [(0, 18)] [] _) (?_ : SdS X 7 [(0, 18)] [] _)
  · refine su_aload_n hC 18 dX8_anew_13 rfl (by decide) (by decide) (?_ : SdS X 14 [(0, 18)] [18] _)
    refine su_getR hC (ci := 8) (j := 9) (C := RX8) (T := TX8) (N := 18) rfl rfl (by decide) in_X8 wl_2_117 rfl dX8_anew_14 (?_ : SdS X 17 [(0, 18)] [12] _)
    refine su_aload_n hC 18 dX8_anew_17 rfl (by decide) (by decide) (?_ : SdS X 18 [(0, 18)] [18, 12] _)
    refine su_getR hC (ci := 8) (j := 2) (C := RX8) (T := TX8) (N := 18) rfl rfl (by decide) in_X8 wl_2_110 rfl dX8_anew_18 (?_ : SdS X 21 [(0, 18)] [11, 12] _)
    refine su_aload_n hC 18 dX8_anew_21 rfl (by decide) (by decide) (?_ : SdS X 22 [(0, 18)] [18, 11, 12] _)
    refine su_getR hC (ci := 8) (j := 6) (C := RX8) (T := TX8) (N := 18) rfl rfl (by decide) in_X8 wl_2_114 rfl dX8_anew_22 (?_ : SdS X 25 [(0, 18)] [117, 11, 12] _)
    refine su_inv0v (τ := []) (τr := [11, 117]) (ci := 2) (q := (RX2, TX2, 10)) hC WG (M_X2_begin _) rfl rfl rfl rfl  rfl rfl wl_3_216 wl_3_217 wl_3_218 wl_1_7 wl_3_219 hd_X2_begin (by rw [e3]; decide) (by decide) dX8_anew_25 (?_ : SdS X 28 [(0, 18)] [] _)
    refine su_aload_n hC 18 dX8_anew_28 rfl (by decide) (by decide) (?_ : SdS X 29 [(0, 18)] [18] _)
    refine su_inv0 (τ := []) (τr := []) (ci := 8) (q := (RX8, TX8, 18)) hC WG (M_X8_allow _) rfl rfl rfl rfl  rfl rfl wl_4_171 wl_4_173 wp_57 wl_1_1 wl_4_174 hd_X8_allow (by rw [e3]; decide) (by decide) dX8_anew_29 (?_ : SdS X 32 [(0, 18)] [0] _)
    exact su_zreturn hC hT dX8_anew_32
  · refine su_aload_n hC 18 dX8_anew_7 rfl (by decide) (by decide) (?_ : SdS X 8 [(0, 18)] [18] _)
    refine su_iconst hC dX8_anew_8 ⟨by decide, by decide⟩ (?_ : SdS X 9 [(0, 18)] [0, 18] _)
    refine su_inv0 (τ := []) (τr := [0]) (ci := 8) (q := (RX8, TX8, 18)) hC WG (M_X8_deny _) rfl rfl rfl rfl  rfl rfl wl_4_167 wl_4_169 wp_56 wl_1_1 wl_4_170 hd_X8_deny (by rw [e3]; decide) (by decide) dX8_anew_9 (?_ : SdS X 12 [(0, 18)] [0] _)
    exact su_zreturn hC hT dX8_anew_12
theorem wl_2_109 : Cond.fieldLink RX8 89 "NarrowRings" "fed" "I" ∈ WALL := tb2 (List.mem_of_getElem? (i := 109) rfl) rfl
theorem wl_2_108 : Cond.fieldLink RX8 9 "NarrowRings" "tape" "[I" ∈ WALL := tb2 (List.mem_of_getElem? (i := 108) rfl) rfl
theorem hd_X8_append : yX8_append.cls ≠ "java/lang/invoke/MethodHandle" ∧ yX8_append.cls ≠ "java/lang/invoke/VarHandle" ∧ (parseMethodDescriptor yX8_append.desc).map (fun d => d.parameters.length) = some 1 := by decide +kernel
set_option maxRecDepth 100000 in
set_option maxHeartbeats 4000000 in
theorem M_X8_append (l : Launch) : MtS l yX8_append (Cond.code yX8_append cX8_append 3 none :: WALL) { frames := 0, cells := 0, slots := 0, locals := 0 } [18, 0] none T_X8_append := by
  refine MtS.mk (B := E_X8_append) (by decide +kernel) (by decide) (fun _ _ _ hh => hh) ?_
  intro X Q e1 e2 e3 hC hN hT
  subst e1
  have hC : CF X cX8_append RX8 WALL := hC
  have S_49 : SdS X 49 [(0, 18), (1, 0), (2, 0)] [] (B_X8_append_49 Q) := by
    unfold B_X8_append_49
    exact su_return hC hT dX8_append_49
  have S_3 : SdS X 3 [(0, 18), (1, 0), (2, 0)] [] (L_X8_append_3 Q) := by
    unfold L_X8_append_3
    refine SdS.loop (fun k3 h3 => ?_)
    refine su_iload_n hC dX8_append_3 rfl (by decide) (?_ : SdS X 4 [(0, 18), (1, 0), (2, 0)] [0] _)
    refine su_if_lt (tgt := 49) hC dX8_append_4 rfl (?_ : SdS X 49 [(0, 18), (1, 0), (2, 0)] [] _) (?_ : SdS X 7 [(0, 18), (1, 0), (2, 0)] [] _)
    · exact SdS.weak (by decide) (S_49)
    · refine su_aload_n hC 18 dX8_append_7 rfl (by decide) (by decide) (?_ : SdS X 8 [(0, 18), (1, 0), (2, 0)] [18] _)
      refine su_getF hC (ci := 8) (j := 1) (C := RX8) (T := TX8) (N := 18) rfl rfl (by decide) in_X8 wl_2_109 rfl dX8_append_8 (?_ : SdS X 11 [(0, 18), (1, 0), (2, 0)] [0] _)
      refine su_sipush hC dX8_append_11 (by decide) (?_ : SdS X 14 [(0, 18), (1, 0), (2, 0)] [0, 0] _)
      refine su_icmp_ge (tgt := 49) hC dX8_append_14 rfl (?_ : SdS X 49 [(0, 18), (1, 0), (2, 0)] [] _) (?_ : SdS X 17 [(0, 18), (1, 0), (2, 0)] [] _)
      · exact SdS.weak (by decide) (S_49)
      · refine su_aload_n hC 18 dX8_append_17 rfl (by decide) (by decide) (?_ : SdS X 18 [(0, 18), (1, 0), (2, 0)] [18] _)
        refine su_getR hC (ci := 8) (j := 0) (C := RX8) (T := TX8) (N := 18) rfl rfl (by decide) in_X8 wl_2_108 rfl dX8_append_18 (?_ : SdS X 21 [(0, 18), (1, 0), (2, 0)] [100] _)
        refine su_aload_n hC 18 dX8_append_21 rfl (by decide) (by decide) (?_ : SdS X 22 [(0, 18), (1, 0), (2, 0)] [18, 100] _)
        refine su_getF hC (ci := 8) (j := 1) (C := RX8) (T := TX8) (N := 18) rfl rfl (by decide) in_X8 wl_2_109 rfl dX8_append_22 (?_ : SdS X 25 [(0, 18), (1, 0), (2, 0)] [0, 100] _)
        refine su_iload_n hC dX8_append_25 rfl (by decide) (?_ : SdS X 26 [(0, 18), (1, 0), (2, 0)] [0, 0, 100] _)
        refine su_iload_n hC dX8_append_26 rfl (by decide) (?_ : SdS X 27 [(0, 18), (1, 0), (2, 0)] [0, 0, 0, 100] _)
        refine su_iushr hC dX8_append_27 (?_ : SdS X 28 [(0, 18), (1, 0), (2, 0)] [0, 0, 100] _)
        refine su_sipush hC dX8_append_28 (by decide) (?_ : SdS X 31 [(0, 18), (1, 0), (2, 0)] [0, 0, 0, 100] _)
        refine su_iand hC dX8_append_31 (?_ : SdS X 32 [(0, 18), (1, 0), (2, 0)] [0, 0, 100] _)
        refine su_iastore hC dX8_append_32 (?_ : SdS X 33 [(0, 18), (1, 0), (2, 0)] [] _)
        refine su_aload_n hC 18 dX8_append_33 rfl (by decide) (by decide) (?_ : SdS X 34 [(0, 18), (1, 0), (2, 0)] [18] _)
        refine su_dup hC (by decide) dX8_append_34 (?_ : SdS X 35 [(0, 18), (1, 0), (2, 0)] [18, 18] _)
        refine su_getF hC (ci := 8) (j := 1) (C := RX8) (T := TX8) (N := 18) rfl rfl (by decide) in_X8 wl_2_109 rfl dX8_append_35 (?_ : SdS X 38 [(0, 18), (1, 0), (2, 0)] [0, 18] _)
        refine su_iconst hC dX8_append_38 ⟨by decide, by decide⟩ (?_ : SdS X 39 [(0, 18), (1, 0), (2, 0)] [0, 0, 18] _)
        refine su_iadd hC dX8_append_39 (?_ : SdS X 40 [(0, 18), (1, 0), (2, 0)] [0, 18] _)
        refine su_putF hC (ci := 8) (j := 1) (C := RX8) (T := TX8) (N := 18) tyX8 tyX8_ok nmX8 rfl rfl (by decide) in_X8 rfl rfl wl_2_109 rfl dX8_append_40 (?_ : SdS X 43 [(0, 18), (1, 0), (2, 0)] [] _)
        refine su_iinc (Γ' := [(0, 18), (1, 0), (2, 0)]) hC dX8_append_43 (by decide) (by rw [e2]; decide) (by decide) (?_ : SdS X 46 [(0, 18), (1, 0), (2, 0)] [] _)
        refine su_goto (tgt := 3) hC dX8_append_46 rfl (?_ : SdS X 3 [(0, 18), (1, 0), (2, 0)] [] _)
        exact SdS.weak (by decide) h3
  refine (?_ : SdS X 0 [(0, 18), (1, 0)] [] (E_X8_append Q))
  unfold E_X8_append
  refine su_bipush hC dX8_append_0 (by decide) (?_ : SdS X 2 [(0, 18), (1, 0)] [0] _)
  refine su_istore_n (Γ' := [(0, 18), (1, 0), (2, 0)]) hC dX8_append_2 rfl (by rw [e2]; decide) (by decide) (?_ : SdS X 3 [(0, 18), (1, 0), (2, 0)] [] _)
  exact SdS.weak (by decide) (S_3)
theorem hd_X8_within : yX8_within.cls ≠ "java/lang/invoke/MethodHandle" ∧ yX8_within.cls ≠ "java/lang/invoke/VarHandle" ∧ (parseMethodDescriptor yX8_within.desc).map (fun d => d.parameters.length) = some 2 := by decide +kernel
set_option maxRecDepth 100000 in
set_option maxHeartbeats 4000000 in
theorem M_X8_within (l : Launch) : MtS l yX8_within (Cond.code yX8_within cX8_within 2 (some .boolean) :: WALL) { frames := 0, cells := 0, slots := 0, locals := 0 } [0, 0] (some 0) T_X8_within := by
  refine MtS.mk (B := E_X8_within) (by decide +kernel) (by decide) (fun _ _ _ hh => hh) ?_
  intro X Q e1 e2 e3 hC hN hT
  subst e1
  have hC : CF X cX8_within RX8 WALL := hC
  have S_14 : SdS X 14 [(0, 0), (1, 0)] [0] (B_X8_within_14 Q) := by
    unfold B_X8_within_14
    exact su_zreturn hC hT dX8_within_14
  have S_13 : SdS X 13 [(0, 0), (1, 0)] [] (B_X8_within_13 Q) := by
    unfold B_X8_within_13
    refine su_iconst hC dX8_within_13 ⟨by decide, by decide⟩ (?_ : SdS X 14 [(0, 0), (1, 0)] [0] _)
    exact SdS.weak (by decide) (S_14)
  refine (?_ : SdS X 0 [(0, 0), (1, 0)] [] (E_X8_within Q))
  unfold E_X8_within
  refine su_iload_n hC dX8_within_0 rfl (by decide) (?_ : SdS X 1 [(0, 0), (1, 0)] [0] _)
  refine su_if_lt (tgt := 13) hC dX8_within_1 rfl (?_ : SdS X 13 [(0, 0), (1, 0)] [] _) (?_ : SdS X 4 [(0, 0), (1, 0)] [] _)
  · exact SdS.weak (by decide) (S_13)
  · refine su_iload_n hC dX8_within_4 rfl (by decide) (?_ : SdS X 5 [(0, 0), (1, 0)] [0] _)
    refine su_iload_n hC dX8_within_5 rfl (by decide) (?_ : SdS X 6 [(0, 0), (1, 0)] [0, 0] _)
    refine su_icmp_ge (tgt := 13) hC dX8_within_6 rfl (?_ : SdS X 13 [(0, 0), (1, 0)] [] _) (?_ : SdS X 9 [(0, 0), (1, 0)] [] _)
    · exact SdS.weak (by decide) (S_13)
    · refine su_iconst hC dX8_within_9 ⟨by decide, by decide⟩ (?_ : SdS X 10 [(0, 0), (1, 0)] [0] _)
      refine su_goto (tgt := 14) hC dX8_within_10 rfl (?_ : SdS X 14 [(0, 0), (1, 0)] [0] _)
      exact SdS.weak (by decide) (S_14)
theorem wl_1_94 : Cond.fieldLink RX8 299 "NarrowRings$City" "goods" "I" ∈ WALL := tb1 (List.mem_of_getElem? (i := 94) rfl) rfl
theorem wl_4_6 : Cond.methodLink RX8 133 yX8_within ∈ WALL := tb4 (List.mem_of_getElem? (i := 6) rfl) rfl
theorem wl_4_7 : Cond.static yX8_within ∈ WALL := tb4 (List.mem_of_getElem? (i := 7) rfl) rfl
theorem wl_4_8 : Cond.code yX8_within cX8_within 2 (some .boolean) ∈ WALL := tb4 (List.mem_of_getElem? (i := 8) rfl) rfl
theorem hd_X8_isGood : yX8_isGood.cls ≠ "java/lang/invoke/MethodHandle" ∧ yX8_isGood.cls ≠ "java/lang/invoke/VarHandle" ∧ (parseMethodDescriptor yX8_isGood.desc).map (fun d => d.parameters.length) = some 1 := by decide +kernel
set_option maxRecDepth 100000 in
set_option maxHeartbeats 4000000 in
theorem M_X8_isGood (l : Launch) : MtS l yX8_isGood (Cond.code yX8_isGood cX8_isGood 2 (some .boolean) :: WALL) { frames := 1, cells := 0, slots := 0, locals := 21 } [18, 0] (some 0) T_X8_isGood := by
  refine MtS.mk (B := E_X8_isGood) (by decide +kernel) (by decide) (fun _ _ _ hh => hh) ?_
  intro X Q e1 e2 e3 hC hN hT
  subst e1
  have hC : CF X cX8_isGood RX8 WALL := hC
  refine (?_ : SdS X 0 [(0, 18), (1, 0)] [] (E_X8_isGood Q))
  unfold E_X8_isGood
  refine su_iload_n hC dX8_isGood_0 rfl (by decide) (?_ : SdS X 1 [(0, 18), (1, 0)] [0] _)
  refine su_aload_n hC 18 dX8_isGood_1 rfl (by decide) (by decide) (?_ : SdS X 2 [(0, 18), (1, 0)] [18, 0] _)
  refine su_getR hC (ci := 8) (j := 2) (C := RX8) (T := TX8) (N := 18) rfl rfl (by decide) in_X8 wl_2_110 rfl dX8_isGood_2 (?_ : SdS X 5 [(0, 18), (1, 0)] [11, 0] _)
  refine su_getF hC (ci := 1) (j := 3) (C := RX1) (T := TX1) (N := 12) rfl rfl (by decide) in_X1 wl_1_94 rfl dX8_isGood_5 (?_ : SdS X 8 [(0, 18), (1, 0)] [0, 0] _)
  refine su_invs (τ := []) (τs := [0, 0]) hC false "" WG (M_X8_within _) rfl rfl rfl rfl wl_4_6 wl_4_7 wl_1_1 wl_4_8 hd_X8_within (by rw [e3]; decide) (by decide) dX8_isGood_8 (?_ : SdS X 11 [(0, 18), (1, 0)] [0] _)
  exact su_zreturn hC hT dX8_isGood_11
theorem hd_X8_isRing : yX8_isRing.cls ≠ "java/lang/invoke/MethodHandle" ∧ yX8_isRing.cls ≠ "java/lang/invoke/VarHandle" ∧ (parseMethodDescriptor yX8_isRing.desc).map (fun d => d.parameters.length) = some 1 := by decide +kernel
set_option maxRecDepth 100000 in
set_option maxHeartbeats 4000000 in
theorem M_X8_isRing (l : Launch) : MtS l yX8_isRing (Cond.code yX8_isRing cX8_isRing 2 (some .boolean) :: WALL) { frames := 1, cells := 0, slots := 0, locals := 21 } [18, 0] (some 0) T_X8_isRing := by
  refine MtS.mk (B := E_X8_isRing) (by decide +kernel) (by decide) (fun _ _ _ hh => hh) ?_
  intro X Q e1 e2 e3 hC hN hT
  subst e1
  have hC : CF X cX8_isRing RX8 WALL := hC
  refine (?_ : SdS X 0 [(0, 18), (1, 0)] [] (E_X8_isRing Q))
  unfold E_X8_isRing
  refine su_iload_n hC dX8_isRing_0 rfl (by decide) (?_ : SdS X 1 [(0, 18), (1, 0)] [0] _)
  refine su_aload_n hC 18 dX8_isRing_1 rfl (by decide) (by decide) (?_ : SdS X 2 [(0, 18), (1, 0)] [18, 0] _)
  refine su_getR hC (ci := 8) (j := 2) (C := RX8) (T := TX8) (N := 18) rfl rfl (by decide) in_X8 wl_2_110 rfl dX8_isRing_2 (?_ : SdS X 5 [(0, 18), (1, 0)] [11, 0] _)
  refine su_getF hC (ci := 1) (j := 0) (C := RX1) (T := TX1) (N := 12) rfl rfl (by decide) in_X1 wl_1_79 rfl dX8_isRing_5 (?_ : SdS X 8 [(0, 18), (1, 0)] [0, 0] _)
  refine su_invs (τ := []) (τs := [0, 0]) hC false "" WG (M_X8_within _) rfl rfl rfl rfl wl_4_6 wl_4_7 wl_1_1 wl_4_8 hd_X8_within (by rw [e3]; decide) (by decide) dX8_isRing_8 (?_ : SdS X 11 [(0, 18), (1, 0)] [0] _)
  exact su_zreturn hC hT dX8_isRing_11
theorem wl_4_13 : Cond.methodLink RX8 141 yX8_isRing ∈ WALL := tb4 (List.mem_of_getElem? (i := 13) rfl) rfl
theorem wl_4_15 : Cond.instanceMethod yX8_isRing ∈ WALL := tb4 (List.mem_of_getElem? (i := 15) rfl) rfl
theorem wp_36 : Cond.selects RX8 yX8_isRing yX8_isRing ∈ WALL := tbS (List.mem_of_getElem? (i := 36) rfl)
theorem wl_4_16 : Cond.code yX8_isRing cX8_isRing 2 (some .boolean) ∈ WALL := tb4 (List.mem_of_getElem? (i := 16) rfl) rfl
theorem hd_X8_isSpot : yX8_isSpot.cls ≠ "java/lang/invoke/MethodHandle" ∧ yX8_isSpot.cls ≠ "java/lang/invoke/VarHandle" ∧ (parseMethodDescriptor yX8_isSpot.desc).map (fun d => d.parameters.length) = some 2 := by decide +kernel
set_option maxRecDepth 100000 in
set_option maxHeartbeats 4000000 in
theorem M_X8_isSpot (l : Launch) : MtS l yX8_isSpot (Cond.code yX8_isSpot cX8_isSpot 3 (some .boolean) :: WALL) { frames := 2, cells := 0, slots := 0, locals := 42 } [18, 0, 0] (some 0) T_X8_isSpot := by
  refine MtS.mk (B := E_X8_isSpot) (by decide +kernel) (by decide) (fun _ _ _ hh => hh) ?_
  intro X Q e1 e2 e3 hC hN hT
  subst e1
  have hC : CF X cX8_isSpot RX8 WALL := hC
  have S_22 : SdS X 22 [(0, 18), (1, 0), (2, 0)] [0] (B_X8_isSpot_22 Q) := by
    unfold B_X8_isSpot_22
    exact su_zreturn hC hT dX8_isSpot_22
  have S_21 : SdS X 21 [(0, 18), (1, 0), (2, 0)] [] (B_X8_isSpot_21 Q) := by
    unfold B_X8_isSpot_21
    refine su_iconst hC dX8_isSpot_21 ⟨by decide, by decide⟩ (?_ : SdS X 22 [(0, 18), (1, 0), (2, 0)] [0] _)
    exact SdS.weak (by decide) (S_22)
  refine (?_ : SdS X 0 [(0, 18), (1, 0), (2, 0)] [] (E_X8_isSpot Q))
  unfold E_X8_isSpot
  refine su_aload_n hC 18 dX8_isSpot_0 rfl (by decide) (by decide) (?_ : SdS X 1 [(0, 18), (1, 0), (2, 0)] [18] _)
  refine su_iload_n hC dX8_isSpot_1 rfl (by decide) (?_ : SdS X 2 [(0, 18), (1, 0), (2, 0)] [0, 18] _)
  refine su_inv0 (τ := []) (τr := [0]) (ci := 8) (q := (RX8, TX8, 18)) hC WG (M_X8_isRing _) rfl rfl rfl rfl  rfl rfl wl_4_13 wl_4_15 wp_36 wl_1_1 wl_4_16 hd_X8_isRing (by rw [e3]; decide) (by decide) dX8_isSpot_2 (?_ : SdS X 5 [(0, 18), (1, 0), (2, 0)] [0] _)
  refine su_if_eq (tgt := 21) hC dX8_isSpot_5 rfl (?_ : SdS X 21 [(0, 18), (1, 0), (2, 0)] [] _) (?_ : SdS X 8 [(0, 18), (1, 0), (2, 0)] [] _)
  · exact SdS.weak (by decide) (S_21)
  · refine su_iload_n hC dX8_isSpot_8 rfl (by decide) (?_ : SdS X 9 [(0, 18), (1, 0), (2, 0)] [0] _)
    refine su_bipush hC dX8_isSpot_9 (by decide) (?_ : SdS X 11 [(0, 18), (1, 0), (2, 0)] [0, 0] _)
    refine su_invs (τ := []) (τs := [0, 0]) hC false "" WG (M_X8_within _) rfl rfl rfl rfl wl_4_6 wl_4_7 wl_1_1 wl_4_8 hd_X8_within (by rw [e3]; decide) (by decide) dX8_isSpot_11 (?_ : SdS X 14 [(0, 18), (1, 0), (2, 0)] [0] _)
    refine su_if_eq (tgt := 21) hC dX8_isSpot_14 rfl (?_ : SdS X 21 [(0, 18), (1, 0), (2, 0)] [] _) (?_ : SdS X 17 [(0, 18), (1, 0), (2, 0)] [] _)
    · exact SdS.weak (by decide) (S_21)
    · refine su_iconst hC dX8_isSpot_17 ⟨by decide, by decide⟩ (?_ : SdS X 18 [(0, 18), (1, 0), (2, 0)] [0] _)
      refine su_goto (tgt := 22) hC dX8_isSpot_18 rfl (?_ : SdS X 22 [(0, 18), (1, 0), (2, 0)] [0] _)
      exact SdS.weak (by decide) (S_22)
theorem wl_4_17 : Cond.methodLink RX8 144 yX8_isGood ∈ WALL := tb4 (List.mem_of_getElem? (i := 17) rfl) rfl
theorem wl_4_19 : Cond.instanceMethod yX8_isGood ∈ WALL := tb4 (List.mem_of_getElem? (i := 19) rfl) rfl
theorem wp_37 : Cond.selects RX8 yX8_isGood yX8_isGood ∈ WALL := tbS (List.mem_of_getElem? (i := 37) rfl)
theorem wl_4_20 : Cond.code yX8_isGood cX8_isGood 2 (some .boolean) ∈ WALL := tb4 (List.mem_of_getElem? (i := 20) rfl) rfl
theorem wl_4_67 : Cond.methodLink RX8 275 yX8_isSpot ∈ WALL := tb4 (List.mem_of_getElem? (i := 67) rfl) rfl
theorem wl_4_69 : Cond.instanceMethod yX8_isSpot ∈ WALL := tb4 (List.mem_of_getElem? (i := 69) rfl) rfl
theorem wp_41 : Cond.selects RX8 yX8_isSpot yX8_isSpot ∈ WALL := tbS (List.mem_of_getElem? (i := 41) rfl)
theorem wl_4_70 : Cond.code yX8_isSpot cX8_isSpot 3 (some .boolean) ∈ WALL := tb4 (List.mem_of_getElem? (i := 70) rfl) rfl
theorem wl_2_116 : Cond.fieldLink RX8 52 "NarrowRings" "askedRow" "[I" ∈ WALL := tb2 (List.mem_of_getElem? (i := 116) rfl) rfl
theorem wl_2_113 : Cond.fieldLink RX8 37 "NarrowRings" "finder" "LNarrowRings$Finder;" ∈ WALL := tb2 (List.mem_of_getElem? (i := 113) rfl) rfl
theorem wl_2_115 : Cond.fieldLink RX8 48 "NarrowRings" "asked" "LNarrowRings$Way;" ∈ WALL := tb2 (List.mem_of_getElem? (i := 115) rfl) rfl
theorem wl_3_127 : Cond.methodLink RX8 302 yX3_seek ∈ WALL := tb3 (List.mem_of_getElem? (i := 127) rfl) rfl
theorem wl_3_128 : Cond.instanceMethod yX3_seek ∈ WALL := tb3 (List.mem_of_getElem? (i := 128) rfl) rfl
theorem wl_3_129 : Cond.selects RX3 yX3_seek yX3_seek ∈ WALL := tb3 (List.mem_of_getElem? (i := 129) rfl) rfl
theorem wl_3_130 : Cond.code yX3_seek cX3_seek 7 none ∈ WALL := tb3 (List.mem_of_getElem? (i := 130) rfl) rfl
theorem hd_X8_ask : yX8_ask.cls ≠ "java/lang/invoke/MethodHandle" ∧ yX8_ask.cls ≠ "java/lang/invoke/VarHandle" ∧ (parseMethodDescriptor yX8_ask.desc).map (fun d => d.parameters.length) = some 5 := by decide +kernel
set_option maxRecDepth 100000 in
set_option maxHeartbeats 4000000 in
theorem M_X8_ask (l : Launch) : MtS l yX8_ask (Cond.code yX8_ask cX8_ask 6 (some .boolean) :: WALL) { frames := 5, cells := 0, slots := 0, locals := 124 } [18, 0, 0, 0, 0, 0] (some 0) T_X8_ask := by
  refine MtS.mk (B := E_X8_ask) (by decide +kernel) (by decide) (fun _ _ _ hh => hh) ?_
  intro X Q e1 e2 e3 hC hN hT
  subst e1
  have hC : CF X cX8_ask RX8 WALL := hC
  have S_28 : SdS X 28 [(0, 18), (1, 0), (2, 0), (3, 0), (4, 0), (5, 0)] [] (B_X8_ask_28 Q) := by
    unfold B_X8_ask_28
    refine su_iconst hC dX8_ask_28 ⟨by decide, by decide⟩ (?_ : SdS X 29 [(0, 18), (1, 0), (2, 0), (3, 0), (4, 0), (5, 0)] [0] _)
    exact su_zreturn hC hT dX8_ask_29
  refine (?_ : SdS X 0 [(0, 18), (1, 0), (2, 0), (3, 0), (4, 0), (5, 0)] [] (E_X8_ask Q))
  unfold E_X8_ask
  refine su_aload_n hC 18 dX8_ask_0 rfl (by decide) (by decide) (?_ : SdS X 1 [(0, 18), (1, 0), (2, 0), (3, 0), (4, 0), (5, 0)] [18] _)
  refine su_iload_n hC dX8_ask_1 rfl (by decide) (?_ : SdS X 2 [(0, 18), (1, 0), (2, 0), (3, 0), (4, 0), (5, 0)] [0, 18] _)
  refine su_inv0 (τ := []) (τr := [0]) (ci := 8) (q := (RX8, TX8, 18)) hC WG (M_X8_isGood _) rfl rfl rfl rfl  rfl rfl wl_4_17 wl_4_19 wp_37 wl_1_1 wl_4_20 hd_X8_isGood (by rw [e3]; decide) (by decide) dX8_ask_2 (?_ : SdS X 5 [(0, 18), (1, 0), (2, 0), (3, 0), (4, 0), (5, 0)] [0] _)
  refine su_if_eq (tgt := 28) hC dX8_ask_5 rfl (?_ : SdS X 28 [(0, 18), (1, 0), (2, 0), (3, 0), (4, 0), (5, 0)] [] _) (?_ : SdS X 8 [(0, 18), (1, 0), (2, 0), (3, 0), (4, 0), (5, 0)] [] _)
  · exact SdS.weak (by decide) (S_28)
  · refine su_aload_n hC 18 dX8_ask_8 rfl (by decide) (by decide) (?_ : SdS X 9 [(0, 18), (1, 0), (2, 0), (3, 0), (4, 0), (5, 0)] [18] _)
    refine su_iload_n hC dX8_ask_9 rfl (by decide) (?_ : SdS X 10 [(0, 18), (1, 0), (2, 0), (3, 0), (4, 0), (5, 0)] [0, 18] _)
    refine su_iload_n hC dX8_ask_10 rfl (by decide) (?_ : SdS X 11 [(0, 18), (1, 0), (2, 0), (3, 0), (4, 0), (5, 0)] [0, 0, 18] _)
    refine su_inv0 (τ := []) (τr := [0, 0]) (ci := 8) (q := (RX8, TX8, 18)) hC WG (M_X8_isSpot _) rfl rfl rfl rfl  rfl rfl wl_4_67 wl_4_69 wp_41 wl_1_1 wl_4_70 hd_X8_isSpot (by rw [e3]; decide) (by decide) dX8_ask_11 (?_ : SdS X 14 [(0, 18), (1, 0), (2, 0), (3, 0), (4, 0), (5, 0)] [0] _)
    refine su_if_eq (tgt := 28) hC dX8_ask_14 rfl (?_ : SdS X 28 [(0, 18), (1, 0), (2, 0), (3, 0), (4, 0), (5, 0)] [] _) (?_ : SdS X 17 [(0, 18), (1, 0), (2, 0), (3, 0), (4, 0), (5, 0)] [] _)
    · exact SdS.weak (by decide) (S_28)
    · refine su_aload_n hC 18 dX8_ask_17 rfl (by decide) (by decide) (?_ : SdS X 18 [(0, 18), (1, 0), (2, 0), (3, 0), (4, 0), (5, 0)] [18] _)
      refine su_iload hC dX8_ask_18 (by decide) (?_ : SdS X 20 [(0, 18), (1, 0), (2, 0), (3, 0), (4, 0), (5, 0)] [0, 18] _)
      refine su_iload hC dX8_ask_20 (by decide) (?_ : SdS X 22 [(0, 18), (1, 0), (2, 0), (3, 0), (4, 0), (5, 0)] [0, 0, 18] _)
      refine su_inv0 (τ := []) (τr := [0, 0]) (ci := 8) (q := (RX8, TX8, 18)) hC WG (M_X8_isSpot _) rfl rfl rfl rfl  rfl rfl wl_4_67 wl_4_69 wp_41 wl_1_1 wl_4_70 hd_X8_isSpot (by rw [e3]; decide) (by decide) dX8_ask_22 (?_ : SdS X 25 [(0, 18), (1, 0), (2, 0), (3, 0), (4, 0), (5, 0)] [0] _)
      refine su_if_ne (tgt := 30) hC dX8_ask_25 rfl (?_ : SdS X 30 [(0, 18), (1, 0), (2, 0), (3, 0), (4, 0), (5, 0)] [] _) (?_ : SdS X 28 [(0, 18), (1, 0), (2, 0), (3, 0), (4, 0), (5, 0)] [] _)
      · refine su_aload_n hC 18 dX8_ask_30 rfl (by decide) (by decide) (?_ : SdS X 31 [(0, 18), (1, 0), (2, 0), (3, 0), (4, 0), (5, 0)] [18] _)
        refine su_getR hC (ci := 8) (j := 8) (C := RX8) (T := TX8) (N := 18) rfl rfl (by decide) in_X8 wl_2_116 rfl dX8_ask_31 (?_ : SdS X 34 [(0, 18), (1, 0), (2, 0), (3, 0), (4, 0), (5, 0)] [100] _)
        refine su_iconst hC dX8_ask_34 ⟨by decide, by decide⟩ (?_ : SdS X 35 [(0, 18), (1, 0), (2, 0), (3, 0), (4, 0), (5, 0)] [0, 100] _)
        refine su_iload_n hC dX8_ask_35 rfl (by decide) (?_ : SdS X 36 [(0, 18), (1, 0), (2, 0), (3, 0), (4, 0), (5, 0)] [0, 0, 100] _)
        refine su_iastore hC dX8_ask_36 (?_ : SdS X 37 [(0, 18), (1, 0), (2, 0), (3, 0), (4, 0), (5, 0)] [] _)
        refine su_aload_n hC 18 dX8_ask_37 rfl (by decide) (by decide) (?_ : SdS X 38 [(0, 18), (1, 0), (2, 0), (3, 0), (4, 0), (5, 0)] [18] _)
        refine su_getR hC (ci := 8) (j := 8) (C := RX8) (T := TX8) (N := 18) rfl rfl (by decide) in_X8 wl_2_116 rfl dX8_ask_38 (?_ : SdS X 41 [(0, 18), (1, 0), (2, 0), (3, 0), (4, 0), (5, 0)] [100] _)
        refine su_iconst hC dX8_ask_41 ⟨by decide, by decide⟩ (?_ : SdS X 42 [(0, 18), (1, 0), (2, 0), (3, 0), (4, 0), (5, 0)] [0, 100] _)
        refine su_iload_n hC dX8_ask_42 rfl (by decide) (?_ : SdS X 43 [(0, 18), (1, 0), (2, 0), (3, 0), (4, 0), (5, 0)] [0, 0, 100] _)
        refine su_iastore hC dX8_ask_43 (?_ : SdS X 44 [(0, 18), (1, 0), (2, 0), (3, 0), (4, 0), (5, 0)] [] _)
        refine su_aload_n hC 18 dX8_ask_44 rfl (by decide) (by decide) (?_ : SdS X 45 [(0, 18), (1, 0), (2, 0), (3, 0), (4, 0), (5, 0)] [18] _)
        refine su_getR hC (ci := 8) (j := 8) (C := RX8) (T := TX8) (N := 18) rfl rfl (by decide) in_X8 wl_2_116 rfl dX8_ask_45 (?_ : SdS X 48 [(0, 18), (1, 0), (2, 0), (3, 0), (4, 0), (5, 0)] [100] _)
        refine su_iconst hC dX8_ask_48 ⟨by decide, by decide⟩ (?_ : SdS X 49 [(0, 18), (1, 0), (2, 0), (3, 0), (4, 0), (5, 0)] [0, 100] _)
        refine su_iload_n hC dX8_ask_49 rfl (by decide) (?_ : SdS X 50 [(0, 18), (1, 0), (2, 0), (3, 0), (4, 0), (5, 0)] [0, 0, 100] _)
        refine su_iastore hC dX8_ask_50 (?_ : SdS X 51 [(0, 18), (1, 0), (2, 0), (3, 0), (4, 0), (5, 0)] [] _)
        refine su_aload_n hC 18 dX8_ask_51 rfl (by decide) (by decide) (?_ : SdS X 52 [(0, 18), (1, 0), (2, 0), (3, 0), (4, 0), (5, 0)] [18] _)
        refine su_getR hC (ci := 8) (j := 8) (C := RX8) (T := TX8) (N := 18) rfl rfl (by decide) in_X8 wl_2_116 rfl dX8_ask_52 (?_ : SdS X 55 [(0, 18), (1, 0), (2, 0), (3, 0), (4, 0), (5, 0)] [100] _)
        refine su_iconst hC dX8_ask_55 ⟨by decide, by decide⟩ (?_ : SdS X 56 [(0, 18), (1, 0), (2, 0), (3, 0), (4, 0), (5, 0)] [0, 100] _)
        refine su_iload hC dX8_ask_56 (by decide) (?_ : SdS X 58 [(0, 18), (1, 0), (2, 0), (3, 0), (4, 0), (5, 0)] [0, 0, 100] _)
        refine su_iastore hC dX8_ask_58 (?_ : SdS X 59 [(0, 18), (1, 0), (2, 0), (3, 0), (4, 0), (5, 0)] [] _)
        refine su_aload_n hC 18 dX8_ask_59 rfl (by decide) (by decide) (?_ : SdS X 60 [(0, 18), (1, 0), (2, 0), (3, 0), (4, 0), (5, 0)] [18] _)
        refine su_getR hC (ci := 8) (j := 8) (C := RX8) (T := TX8) (N := 18) rfl rfl (by decide) in_X8 wl_2_116 rfl dX8_ask_60 (?_ : SdS X 63 [(0, 18), (1, 0), (2, 0), (3, 0), (4, 0), (5, 0)] [100] _)
        refine su_iconst hC dX8_ask_63 ⟨by decide, by decide⟩ (?_ : SdS X 64 [(0, 18), (1, 0), (2, 0), (3, 0), (4, 0), (5, 0)] [0, 100] _)
        refine su_iload hC dX8_ask_64 (by decide) (?_ : SdS X 66 [(0, 18), (1, 0), (2, 0), (3, 0), (4, 0), (5, 0)] [0, 0, 100] _)
        refine su_iastore hC dX8_ask_66 (?_ : SdS X 67 [(0, 18), (1, 0), (2, 0), (3, 0), (4, 0), (5, 0)] [] _)
        refine su_aload_n hC 18 dX8_ask_67 rfl (by decide) (by decide) (?_ : SdS X 68 [(0, 18), (1, 0), (2, 0), (3, 0), (4, 0), (5, 0)] [18] _)
        refine su_getR hC (ci := 8) (j := 5) (C := RX8) (T := TX8) (N := 18) rfl rfl (by decide) in_X8 wl_2_113 rfl dX8_ask_68 (?_ : SdS X 71 [(0, 18), (1, 0), (2, 0), (3, 0), (4, 0), (5, 0)] [13] _)
        refine su_aload_n hC 18 dX8_ask_71 rfl (by decide) (by decide) (?_ : SdS X 72 [(0, 18), (1, 0), (2, 0), (3, 0), (4, 0), (5, 0)] [18, 13] _)
        refine su_getR hC (ci := 8) (j := 2) (C := RX8) (T := TX8) (N := 18) rfl rfl (by decide) in_X8 wl_2_110 rfl dX8_ask_72 (?_ : SdS X 75 [(0, 18), (1, 0), (2, 0), (3, 0), (4, 0), (5, 0)] [11, 13] _)
        refine su_aload_n hC 18 dX8_ask_75 rfl (by decide) (by decide) (?_ : SdS X 76 [(0, 18), (1, 0), (2, 0), (3, 0), (4, 0), (5, 0)] [18, 11, 13] _)
        refine su_getR hC (ci := 8) (j := 8) (C := RX8) (T := TX8) (N := 18) rfl rfl (by decide) in_X8 wl_2_116 rfl dX8_ask_76 (?_ : SdS X 79 [(0, 18), (1, 0), (2, 0), (3, 0), (4, 0), (5, 0)] [100, 11, 13] _)
        refine su_aload_n hC 18 dX8_ask_79 rfl (by decide) (by decide) (?_ : SdS X 80 [(0, 18), (1, 0), (2, 0), (3, 0), (4, 0), (5, 0)] [18, 100, 11, 13] _)
        refine su_getR hC (ci := 8) (j := 7) (C := RX8) (T := TX8) (N := 18) rfl rfl (by decide) in_X8 wl_2_115 rfl dX8_ask_80 (?_ : SdS X 83 [(0, 18), (1, 0), (2, 0), (3, 0), (4, 0), (5, 0)] [17, 100, 11, 13] _)
        refine su_inv0v (τ := []) (τr := [11, 100, 17]) (ci := 3) (q := (RX3, TX3, 6)) hC WG (M_X3_seek _) rfl rfl rfl rfl  rfl rfl wl_3_127 wl_3_128 wl_3_129 wl_1_5 wl_3_130 hd_X3_seek (by rw [e3]; decide) (by decide) dX8_ask_83 (?_ : SdS X 86 [(0, 18), (1, 0), (2, 0), (3, 0), (4, 0), (5, 0)] [] _)
        refine su_iconst hC dX8_ask_86 ⟨by decide, by decide⟩ (?_ : SdS X 87 [(0, 18), (1, 0), (2, 0), (3, 0), (4, 0), (5, 0)] [0] _)
        exact su_zreturn hC hT dX8_ask_87
      · exact SdS.weak (by decide) (S_28)
theorem wl_2_119 : Cond.fieldLink RX8 247 "NarrowRings" "marked" "I" ∈ WALL := tb2 (List.mem_of_getElem? (i := 119) rfl) rfl
theorem wl_2_118 : Cond.fieldLink RX8 64 "NarrowRings" "marks" "[LNarrowRings$Day;" ∈ WALL := tb2 (List.mem_of_getElem? (i := 118) rfl) rfl
theorem wl_4_211 : Cond.methodLink RX8 250 yX2_copy ∈ WALL := tb4 (List.mem_of_getElem? (i := 211) rfl) rfl
theorem wl_4_212 : Cond.instanceMethod yX2_copy ∈ WALL := tb4 (List.mem_of_getElem? (i := 212) rfl) rfl
theorem wl_4_213 : Cond.selects RX2 yX2_copy yX2_copy ∈ WALL := tb4 (List.mem_of_getElem? (i := 213) rfl) rfl
theorem wl_4_214 : Cond.code yX2_copy cX2_copy 3 none ∈ WALL := tb4 (List.mem_of_getElem? (i := 214) rfl) rfl
theorem hd_X8_back : yX8_back.cls ≠ "java/lang/invoke/MethodHandle" ∧ yX8_back.cls ≠ "java/lang/invoke/VarHandle" ∧ (parseMethodDescriptor yX8_back.desc).map (fun d => d.parameters.length) = some 1 := by decide +kernel
set_option maxRecDepth 100000 in
set_option maxHeartbeats 4000000 in
theorem M_X8_back (l : Launch) : MtS l yX8_back (Cond.code yX8_back cX8_back 2 (some .boolean) :: WALL) { frames := 2, cells := 0, slots := 0, locals := 48 } [18, 0] (some 0) T_X8_back := by
  refine MtS.mk (B := E_X8_back) (by decide +kernel) (by decide) (fun _ _ _ hh => hh) ?_
  intro X Q e1 e2 e3 hC hN hT
  subst e1
  have hC : CF X cX8_back RX8 WALL := hC
  refine (?_ : SdS X 0 [(0, 18), (1, 0)] [] (E_X8_back Q))
  unfold E_X8_back
  refine su_iload_n hC dX8_back_0 rfl (by decide) (?_ : SdS X 1 [(0, 18), (1, 0)] [0] _)
  refine su_aload_n hC 18 dX8_back_1 rfl (by decide) (by decide) (?_ : SdS X 2 [(0, 18), (1, 0)] [18, 0] _)
  refine su_getF hC (ci := 8) (j := 11) (C := RX8) (T := TX8) (N := 18) rfl rfl (by decide) in_X8 wl_2_119 rfl dX8_back_2 (?_ : SdS X 5 [(0, 18), (1, 0)] [0, 0] _)
  refine su_invs (τ := []) (τs := [0, 0]) hC false "" WG (M_X8_within _) rfl rfl rfl rfl wl_4_6 wl_4_7 wl_1_1 wl_4_8 hd_X8_within (by rw [e3]; decide) (by decide) dX8_back_5 (?_ : SdS X 8 [(0, 18), (1, 0)] [0] _)
  refine su_if_ne (tgt := 17) hC dX8_back_8 rfl (?_ : SdS X 17 [(0, 18), (1, 0)] [] _) (?_ : SdS X 11 [(0, 18), (1, 0)] [] _)
  · refine su_aload_n hC 18 dX8_back_17 rfl (by decide) (by decide) (?_ : SdS X 18 [(0, 18), (1, 0)] [18] _)
    refine su_getR hC (ci := 8) (j := 9) (C := RX8) (T := TX8) (N := 18) rfl rfl (by decide) in_X8 wl_2_117 rfl dX8_back_18 (?_ : SdS X 21 [(0, 18), (1, 0)] [12] _)
    refine su_aload_n hC 18 dX8_back_21 rfl (by decide) (by decide) (?_ : SdS X 22 [(0, 18), (1, 0)] [18, 12] _)
    refine su_getR hC (ci := 8) (j := 10) (C := RX8) (T := TX8) (N := 18) rfl rfl (by decide) in_X8 wl_2_118 rfl dX8_back_22 (?_ : SdS X 25 [(0, 18), (1, 0)] [112, 12] _)
    refine su_iload_n hC dX8_back_25 rfl (by decide) (?_ : SdS X 26 [(0, 18), (1, 0)] [0, 112, 12] _)
    refine su_aaload (e := 12) hC (List.mem_of_getElem? (i := 4) rfl) rfl rfl rfl dX8_back_26 (?_ : SdS X 27 [(0, 18), (1, 0)] [12, 12] _)
    refine su_inv0v (τ := []) (τr := [12]) (ci := 2) (q := (RX2, TX2, 10)) hC WG (M_X2_copy _) rfl rfl rfl rfl  rfl rfl wl_4_211 wl_4_212 wl_4_213 wl_1_7 wl_4_214 hd_X2_copy (by rw [e3]; decide) (by decide) dX8_back_27 (?_ : SdS X 30 [(0, 18), (1, 0)] [] _)
    refine su_aload_n hC 18 dX8_back_30 rfl (by decide) (by decide) (?_ : SdS X 31 [(0, 18), (1, 0)] [18] _)
    refine su_inv0 (τ := []) (τr := []) (ci := 8) (q := (RX8, TX8, 18)) hC WG (M_X8_allow _) rfl rfl rfl rfl  rfl rfl wl_4_171 wl_4_173 wp_57 wl_1_1 wl_4_174 hd_X8_allow (by rw [e3]; decide) (by decide) dX8_back_31 (?_ : SdS X 34 [(0, 18), (1, 0)] [0] _)
    exact su_zreturn hC hT dX8_back_34
  · refine su_aload_n hC 18 dX8_back_11 rfl (by decide) (by decide) (?_ : SdS X 12 [(0, 18), (1, 0)] [18] _)
    refine su_iconst hC dX8_back_12 ⟨by decide, by decide⟩ (?_ : SdS X 13 [(0, 18), (1, 0)] [0, 18] _)
    refine su_inv0 (τ := []) (τr := [0]) (ci := 8) (q := (RX8, TX8, 18)) hC WG (M_X8_deny _) rfl rfl rfl rfl  rfl rfl wl_4_167 wl_4_169 wp_56 wl_1_1 wl_4_170 hd_X8_deny (by rw [e3]; decide) (by decide) dX8_back_13 (?_ : SdS X 16 [(0, 18), (1, 0)] [0] _)
    exact su_zreturn hC hT dX8_back_16
theorem wl_1_87 : Cond.fieldLink RX8 261 "NarrowRings$City" "gates" "I" ∈ WALL := tb1 (List.mem_of_getElem? (i := 87) rfl) rfl
theorem hd_X8_isGate : yX8_isGate.cls ≠ "java/lang/invoke/MethodHandle" ∧ yX8_isGate.cls ≠ "java/lang/invoke/VarHandle" ∧ (parseMethodDescriptor yX8_isGate.desc).map (fun d => d.parameters.length) = some 1 := by decide +kernel
set_option maxRecDepth 100000 in
set_option maxHeartbeats 4000000 in
theorem M_X8_isGate (l : Launch) : MtS l yX8_isGate (Cond.code yX8_isGate cX8_isGate 2 (some .boolean) :: WALL) { frames := 1, cells := 0, slots := 0, locals := 21 } [18, 0] (some 0) T_X8_isGate := by
  refine MtS.mk (B := E_X8_isGate) (by decide +kernel) (by decide) (fun _ _ _ hh => hh) ?_
  intro X Q e1 e2 e3 hC hN hT
  subst e1
  have hC : CF X cX8_isGate RX8 WALL := hC
  refine (?_ : SdS X 0 [(0, 18), (1, 0)] [] (E_X8_isGate Q))
  unfold E_X8_isGate
  refine su_iload_n hC dX8_isGate_0 rfl (by decide) (?_ : SdS X 1 [(0, 18), (1, 0)] [0] _)
  refine su_aload_n hC 18 dX8_isGate_1 rfl (by decide) (by decide) (?_ : SdS X 2 [(0, 18), (1, 0)] [18, 0] _)
  refine su_getR hC (ci := 8) (j := 2) (C := RX8) (T := TX8) (N := 18) rfl rfl (by decide) in_X8 wl_2_110 rfl dX8_isGate_2 (?_ : SdS X 5 [(0, 18), (1, 0)] [11, 0] _)
  refine su_getF hC (ci := 1) (j := 1) (C := RX1) (T := TX1) (N := 12) rfl rfl (by decide) in_X1 wl_1_87 rfl dX8_isGate_5 (?_ : SdS X 8 [(0, 18), (1, 0)] [0, 0] _)
  refine su_invs (τ := []) (τs := [0, 0]) hC false "" WG (M_X8_within _) rfl rfl rfl rfl wl_4_6 wl_4_7 wl_1_1 wl_4_8 hd_X8_within (by rw [e3]; decide) (by decide) dX8_isGate_8 (?_ : SdS X 11 [(0, 18), (1, 0)] [0] _)
  exact su_zreturn hC hT dX8_isGate_11
theorem wl_4_2 : Cond.methodLink RX8 129 yX8_isGate ∈ WALL := tb4 (List.mem_of_getElem? (i := 2) rfl) rfl
theorem wl_4_4 : Cond.instanceMethod yX8_isGate ∈ WALL := tb4 (List.mem_of_getElem? (i := 4) rfl) rfl
theorem wp_35 : Cond.selects RX8 yX8_isGate yX8_isGate ∈ WALL := tbS (List.mem_of_getElem? (i := 35) rfl)
theorem wl_4_5 : Cond.code yX8_isGate cX8_isGate 2 (some .boolean) ∈ WALL := tb4 (List.mem_of_getElem? (i := 5) rfl) rfl
theorem wl_4_35 : Cond.methodLink RX8 165 yX1_thing ∈ WALL := tb4 (List.mem_of_getElem? (i := 35) rfl) rfl
theorem wl_4_36 : Cond.methodLink RX8 169 yX1_barOf ∈ WALL := tb4 (List.mem_of_getElem? (i := 36) rfl) rfl
theorem wl_4_31 : Cond.methodLink RX8 162 yX1_canCut ∈ WALL := tb4 (List.mem_of_getElem? (i := 31) rfl) rfl
theorem wl_4_32 : Cond.instanceMethod yX1_canCut ∈ WALL := tb4 (List.mem_of_getElem? (i := 32) rfl) rfl
theorem wl_4_33 : Cond.selects RX1 yX1_canCut yX1_canCut ∈ WALL := tb4 (List.mem_of_getElem? (i := 33) rfl) rfl
theorem wl_4_34 : Cond.code yX1_canCut cX1_canCut 2 (some .boolean) ∈ WALL := tb4 (List.mem_of_getElem? (i := 34) rfl) rfl
theorem hd_X8_bars : yX8_bars.cls ≠ "java/lang/invoke/MethodHandle" ∧ yX8_bars.cls ≠ "java/lang/invoke/VarHandle" ∧ (parseMethodDescriptor yX8_bars.desc).map (fun d => d.parameters.length) = some 3 := by decide +kernel
set_option maxRecDepth 100000 in
set_option maxHeartbeats 4000000 in
theorem M_X8_bars (l : Launch) : MtS l yX8_bars (Cond.code yX8_bars cX8_bars 4 (some .int) :: WALL) { frames := 2, cells := 0, slots := 0, locals := 52 } [18, 0, 0, 0] (some 0) T_X8_bars := by
  refine MtS.mk (B := E_X8_bars) (by decide +kernel) (by decide) (fun _ _ _ hh => hh) ?_
  intro X Q e1 e2 e3 hC hN hT
  subst e1
  have hC : CF X cX8_bars RX8 WALL := hC
  have S_16 : SdS X 16 [(0, 18), (1, 0), (2, 0), (3, 0)] [] (B_X8_bars_16 Q) := by
    unfold B_X8_bars_16
    refine su_aload_n hC 18 dX8_bars_16 rfl (by decide) (by decide) (?_ : SdS X 17 [(0, 18), (1, 0), (2, 0), (3, 0)] [18] _)
    refine su_iconst hC dX8_bars_17 ⟨by decide, by decide⟩ (?_ : SdS X 18 [(0, 18), (1, 0), (2, 0), (3, 0)] [0, 18] _)
    refine su_inv0 (τ := []) (τr := [0]) (ci := 8) (q := (RX8, TX8, 18)) hC WG (M_X8_refuse _) rfl rfl rfl rfl  rfl rfl wl_2_175 wl_2_177 wp_1 wl_1_1 wl_2_178 hd_X8_refuse (by rw [e3]; decide) (by decide) dX8_bars_18 (?_ : SdS X 21 [(0, 18), (1, 0), (2, 0), (3, 0)] [0] _)
    exact su_ireturn hC hT dX8_bars_21
  have S_43 : SdS X 43 [(0, 18), (1, 0), (2, 0), (3, 0)] [] (B_X8_bars_43 Q) := by
    unfold B_X8_bars_43
    refine su_aload_n hC 18 dX8_bars_43 rfl (by decide) (by decide) (?_ : SdS X 44 [(0, 18), (1, 0), (2, 0), (3, 0)] [18] _)
    refine su_aload_n hC 18 dX8_bars_44 rfl (by decide) (by decide) (?_ : SdS X 45 [(0, 18), (1, 0), (2, 0), (3, 0)] [18, 18] _)
    refine su_getR hC (ci := 8) (j := 2) (C := RX8) (T := TX8) (N := 18) rfl rfl (by decide) in_X8 wl_2_110 rfl dX8_bars_45 (?_ : SdS X 48 [(0, 18), (1, 0), (2, 0), (3, 0)] [11, 18] _)
    refine su_aload_n hC 18 dX8_bars_48 rfl (by decide) (by decide) (?_ : SdS X 49 [(0, 18), (1, 0), (2, 0), (3, 0)] [18, 11, 18] _)
    refine su_getR hC (ci := 8) (j := 2) (C := RX8) (T := TX8) (N := 18) rfl rfl (by decide) in_X8 wl_2_110 rfl dX8_bars_49 (?_ : SdS X 52 [(0, 18), (1, 0), (2, 0), (3, 0)] [11, 11, 18] _)
    refine su_iload_n hC dX8_bars_52 rfl (by decide) (?_ : SdS X 53 [(0, 18), (1, 0), (2, 0), (3, 0)] [0, 11, 11, 18] _)
    refine su_iload_n hC dX8_bars_53 rfl (by decide) (?_ : SdS X 54 [(0, 18), (1, 0), (2, 0), (3, 0)] [0, 0, 11, 11, 18] _)
    refine su_inv0 (τ := [11, 18]) (τr := [0, 0]) (ci := 1) (q := (RX1, TX1, 12)) hC WG (M_X1_thing _) rfl rfl rfl rfl  rfl rfl wl_4_35 wl_3_132 wl_3_133 wl_1_2 wl_3_134 hd_X1_thing (by rw [e3]; decide) (by decide) dX8_bars_54 (?_ : SdS X 57 [(0, 18), (1, 0), (2, 0), (3, 0)] [16, 11, 18] _)
    refine su_iload_n hC dX8_bars_57 rfl (by decide) (?_ : SdS X 58 [(0, 18), (1, 0), (2, 0), (3, 0)] [0, 16, 11, 18] _)
    refine su_inv0 (τ := [18]) (τr := [16, 0]) (ci := 1) (q := (RX1, TX1, 12)) hC WG (M_X1_barOf _) rfl rfl rfl rfl  rfl rfl wl_4_36 wl_3_166 wl_3_167 wl_1_2 wl_3_168 hd_X1_barOf (by rw [e3]; decide) (by decide) dX8_bars_58 (?_ : SdS X 61 [(0, 18), (1, 0), (2, 0), (3, 0)] [0, 18] _)
    refine su_inv0 (τ := []) (τr := [0]) (ci := 8) (q := (RX8, TX8, 18)) hC WG (M_X8_grant _) rfl rfl rfl rfl  rfl rfl wl_3_225 wl_3_227 wp_34 wl_1_1 wl_3_228 hd_X8_grant (by rw [e3]; decide) (by decide) dX8_bars_61 (?_ : SdS X 64 [(0, 18), (1, 0), (2, 0), (3, 0)] [0] _)
    exact su_ireturn hC hT dX8_bars_64
  refine (?_ : SdS X 0 [(0, 18), (1, 0), (2, 0), (3, 0)] [] (E_X8_bars Q))
  unfold E_X8_bars
  refine su_aload_n hC 18 dX8_bars_0 rfl (by decide) (by decide) (?_ : SdS X 1 [(0, 18), (1, 0), (2, 0), (3, 0)] [18] _)
  refine su_iload_n hC dX8_bars_1 rfl (by decide) (?_ : SdS X 2 [(0, 18), (1, 0), (2, 0), (3, 0)] [0, 18] _)
  refine su_inv0 (τ := []) (τr := [0]) (ci := 8) (q := (RX8, TX8, 18)) hC WG (M_X8_isGood _) rfl rfl rfl rfl  rfl rfl wl_4_17 wl_4_19 wp_37 wl_1_1 wl_4_20 hd_X8_isGood (by rw [e3]; decide) (by decide) dX8_bars_2 (?_ : SdS X 5 [(0, 18), (1, 0), (2, 0), (3, 0)] [0] _)
  refine su_if_eq (tgt := 16) hC dX8_bars_5 rfl (?_ : SdS X 16 [(0, 18), (1, 0), (2, 0), (3, 0)] [] _) (?_ : SdS X 8 [(0, 18), (1, 0), (2, 0), (3, 0)] [] _)
  · exact SdS.weak (by decide) (S_16)
  · refine su_aload_n hC 18 dX8_bars_8 rfl (by decide) (by decide) (?_ : SdS X 9 [(0, 18), (1, 0), (2, 0), (3, 0)] [18] _)
    refine su_iload_n hC dX8_bars_9 rfl (by decide) (?_ : SdS X 10 [(0, 18), (1, 0), (2, 0), (3, 0)] [0, 18] _)
    refine su_inv0 (τ := []) (τr := [0]) (ci := 8) (q := (RX8, TX8, 18)) hC WG (M_X8_isGate _) rfl rfl rfl rfl  rfl rfl wl_4_2 wl_4_4 wp_35 wl_1_1 wl_4_5 hd_X8_isGate (by rw [e3]; decide) (by decide) dX8_bars_10 (?_ : SdS X 13 [(0, 18), (1, 0), (2, 0), (3, 0)] [0] _)
    refine su_if_ne (tgt := 22) hC dX8_bars_13 rfl (?_ : SdS X 22 [(0, 18), (1, 0), (2, 0), (3, 0)] [] _) (?_ : SdS X 16 [(0, 18), (1, 0), (2, 0), (3, 0)] [] _)
    · refine su_iload_n hC dX8_bars_22 rfl (by decide) (?_ : SdS X 23 [(0, 18), (1, 0), (2, 0), (3, 0)] [0] _)
      refine su_if_eq (tgt := 43) hC dX8_bars_23 rfl (?_ : SdS X 43 [(0, 18), (1, 0), (2, 0), (3, 0)] [] _) (?_ : SdS X 26 [(0, 18), (1, 0), (2, 0), (3, 0)] [] _)
      · exact SdS.weak (by decide) (S_43)
      · refine su_aload_n hC 18 dX8_bars_26 rfl (by decide) (by decide) (?_ : SdS X 27 [(0, 18), (1, 0), (2, 0), (3, 0)] [18] _)
        refine su_getR hC (ci := 8) (j := 2) (C := RX8) (T := TX8) (N := 18) rfl rfl (by decide) in_X8 wl_2_110 rfl dX8_bars_27 (?_ : SdS X 30 [(0, 18), (1, 0), (2, 0), (3, 0)] [11] _)
        refine su_iload_n hC dX8_bars_30 rfl (by decide) (?_ : SdS X 31 [(0, 18), (1, 0), (2, 0), (3, 0)] [0, 11] _)
        refine su_inv0 (τ := []) (τr := [0]) (ci := 1) (q := (RX1, TX1, 12)) hC WG (M_X1_canCut _) rfl rfl rfl rfl  rfl rfl wl_4_31 wl_4_32 wl_4_33 wl_1_2 wl_4_34 hd_X1_canCut (by rw [e3]; decide) (by decide) dX8_bars_31 (?_ : SdS X 34 [(0, 18), (1, 0), (2, 0), (3, 0)] [0] _)
        refine su_if_ne (tgt := 43) hC dX8_bars_34 rfl (?_ : SdS X 43 [(0, 18), (1, 0), (2, 0), (3, 0)] [] _) (?_ : SdS X 37 [(0, 18), (1, 0), (2, 0), (3, 0)] [] _)
        · exact SdS.weak (by decide) (S_43)
        · refine su_aload_n hC 18 dX8_bars_37 rfl (by decide) (by decide) (?_ : SdS X 38 [(0, 18), (1, 0), (2, 0), (3, 0)] [18] _)
          refine su_iconst hC dX8_bars_38 ⟨by decide, by decide⟩ (?_ : SdS X 39 [(0, 18), (1, 0), (2, 0), (3, 0)] [0, 18] _)
          refine su_inv0 (τ := []) (τr := [0]) (ci := 8) (q := (RX8, TX8, 18)) hC WG (M_X8_refuse _) rfl rfl rfl rfl  rfl rfl wl_2_175 wl_2_177 wp_1 wl_1_1 wl_2_178 hd_X8_refuse (by rw [e3]; decide) (by decide) dX8_bars_39 (?_ : SdS X 42 [(0, 18), (1, 0), (2, 0), (3, 0)] [0] _)
          exact su_ireturn hC hT dX8_bars_42
    · exact SdS.weak (by decide) (S_16)
theorem hd_X8_isSize : yX8_isSize.cls ≠ "java/lang/invoke/MethodHandle" ∧ yX8_isSize.cls ≠ "java/lang/invoke/VarHandle" ∧ (parseMethodDescriptor yX8_isSize.desc).map (fun d => d.parameters.length) = some 1 := by decide +kernel
set_option maxRecDepth 100000 in
set_option maxHeartbeats 4000000 in
theorem M_X8_isSize (l : Launch) : MtS l yX8_isSize (Cond.code yX8_isSize cX8_isSize 1 (some .boolean) :: WALL) { frames := 0, cells := 0, slots := 0, locals := 0 } [0] (some 0) T_X8_isSize := by
  refine MtS.mk (B := E_X8_isSize) (by decide +kernel) (by decide) (fun _ _ _ hh => hh) ?_
  intro X Q e1 e2 e3 hC hN hT
  subst e1
  have hC : CF X cX8_isSize RX8 WALL := hC
  have S_16 : SdS X 16 [(0, 0)] [0] (B_X8_isSize_16 Q) := by
    unfold B_X8_isSize_16
    exact su_zreturn hC hT dX8_isSize_16
  have S_15 : SdS X 15 [(0, 0)] [] (B_X8_isSize_15 Q) := by
    unfold B_X8_isSize_15
    refine su_iconst hC dX8_isSize_15 ⟨by decide, by decide⟩ (?_ : SdS X 16 [(0, 0)] [0] _)
    exact SdS.weak (by decide) (S_16)
  refine (?_ : SdS X 0 [(0, 0)] [] (E_X8_isSize Q))
  unfold E_X8_isSize
  refine su_iload_n hC dX8_isSize_0 rfl (by decide) (?_ : SdS X 1 [(0, 0)] [0] _)
  refine su_iconst hC dX8_isSize_1 ⟨by decide, by decide⟩ (?_ : SdS X 2 [(0, 0)] [0, 0] _)
  refine su_icmp_lt (tgt := 15) hC dX8_isSize_2 rfl (?_ : SdS X 15 [(0, 0)] [] _) (?_ : SdS X 5 [(0, 0)] [] _)
  · exact SdS.weak (by decide) (S_15)
  · refine su_iload_n hC dX8_isSize_5 rfl (by decide) (?_ : SdS X 6 [(0, 0)] [0] _)
    refine su_bipush hC dX8_isSize_6 (by decide) (?_ : SdS X 8 [(0, 0)] [0, 0] _)
    refine su_icmp_gt (tgt := 15) hC dX8_isSize_8 rfl (?_ : SdS X 15 [(0, 0)] [] _) (?_ : SdS X 11 [(0, 0)] [] _)
    · exact SdS.weak (by decide) (S_15)
    · refine su_iconst hC dX8_isSize_11 ⟨by decide, by decide⟩ (?_ : SdS X 12 [(0, 0)] [0] _)
      refine su_goto (tgt := 16) hC dX8_isSize_12 rfl (?_ : SdS X 16 [(0, 0)] [0] _)
      exact SdS.weak (by decide) (S_16)
theorem wl_4_236 : Cond.methodLink RX8 266 yJ9_max_7cf53 ∈ WALL := tb4 (List.mem_of_getElem? (i := 236) rfl) rfl
theorem hd_X8_enlarge : yX8_enlarge.cls ≠ "java/lang/invoke/MethodHandle" ∧ yX8_enlarge.cls ≠ "java/lang/invoke/VarHandle" ∧ (parseMethodDescriptor yX8_enlarge.desc).map (fun d => d.parameters.length) = some 3 := by decide +kernel
set_option maxRecDepth 100000 in
set_option maxHeartbeats 4000000 in
theorem M_X8_enlarge (l : Launch) : MtS l yX8_enlarge (Cond.code yX8_enlarge cX8_enlarge 3 none :: WALL) { frames := 1, cells := 0, slots := 0, locals := 21 } [100, 0, 0] none T_X8_enlarge := by
  refine MtS.mk (B := E_X8_enlarge) (by decide +kernel) (by decide) (fun _ _ _ hh => hh) ?_
  intro X Q e1 e2 e3 hC hN hT
  subst e1
  have hC : CF X cX8_enlarge RX8 WALL := hC
  refine (?_ : SdS X 0 [(0, 100), (1, 0), (2, 0)] [] (E_X8_enlarge Q))
  unfold E_X8_enlarge
  refine su_aload_n hC 100 dX8_enlarge_0 rfl (by decide) (by decide) (?_ : SdS X 1 [(0, 100), (1, 0), (2, 0)] [100] _)
  refine su_iconst hC dX8_enlarge_1 ⟨by decide, by decide⟩ (?_ : SdS X 2 [(0, 100), (1, 0), (2, 0)] [0, 100] _)
  refine su_aload_n hC 100 dX8_enlarge_2 rfl (by decide) (by decide) (?_ : SdS X 3 [(0, 100), (1, 0), (2, 0)] [100, 0, 100] _)
  refine su_iconst hC dX8_enlarge_3 ⟨by decide, by decide⟩ (?_ : SdS X 4 [(0, 100), (1, 0), (2, 0)] [0, 100, 0, 100] _)
  refine su_iaload hC dX8_enlarge_4 (?_ : SdS X 5 [(0, 100), (1, 0), (2, 0)] [0, 0, 100] _)
  refine su_iload_n hC dX8_enlarge_5 rfl (by decide) (?_ : SdS X 6 [(0, 100), (1, 0), (2, 0)] [0, 0, 0, 100] _)
  refine su_imax hC wl_4_236 wl_3_143 wl_1_16 wl_3_144 (by rw [e3]; decide) (by decide) dX8_enlarge_6 (?_ : SdS X 9 [(0, 100), (1, 0), (2, 0)] [0, 0, 100] _)
  refine su_iastore hC dX8_enlarge_9 (?_ : SdS X 10 [(0, 100), (1, 0), (2, 0)] [] _)
  refine su_aload_n hC 100 dX8_enlarge_10 rfl (by decide) (by decide) (?_ : SdS X 11 [(0, 100), (1, 0), (2, 0)] [100] _)
  refine su_iconst hC dX8_enlarge_11 ⟨by decide, by decide⟩ (?_ : SdS X 12 [(0, 100), (1, 0), (2, 0)] [0, 100] _)
  refine su_aload_n hC 100 dX8_enlarge_12 rfl (by decide) (by decide) (?_ : SdS X 13 [(0, 100), (1, 0), (2, 0)] [100, 0, 100] _)
  refine su_iconst hC dX8_enlarge_13 ⟨by decide, by decide⟩ (?_ : SdS X 14 [(0, 100), (1, 0), (2, 0)] [0, 100, 0, 100] _)
  refine su_iaload hC dX8_enlarge_14 (?_ : SdS X 15 [(0, 100), (1, 0), (2, 0)] [0, 0, 100] _)
  refine su_iload_n hC dX8_enlarge_15 rfl (by decide) (?_ : SdS X 16 [(0, 100), (1, 0), (2, 0)] [0, 0, 0, 100] _)
  refine su_imax hC wl_4_236 wl_3_143 wl_1_16 wl_3_144 (by rw [e3]; decide) (by decide) dX8_enlarge_16 (?_ : SdS X 19 [(0, 100), (1, 0), (2, 0)] [0, 0, 100] _)
  refine su_iastore hC dX8_enlarge_19 (?_ : SdS X 20 [(0, 100), (1, 0), (2, 0)] [] _)
  exact su_return hC hT dX8_enlarge_20
theorem wl_1_104 : Cond.fieldLink RX8 137 "NarrowRings$City" "gate" "[[I" ∈ WALL := tb1 (List.mem_of_getElem? (i := 104) rfl) rfl
theorem wl_4_233 : Cond.methodLink RX8 286 yX8_enlarge ∈ WALL := tb4 (List.mem_of_getElem? (i := 233) rfl) rfl
theorem wl_4_234 : Cond.static yX8_enlarge ∈ WALL := tb4 (List.mem_of_getElem? (i := 234) rfl) rfl
theorem wl_4_235 : Cond.code yX8_enlarge cX8_enlarge 3 none ∈ WALL := tb4 (List.mem_of_getElem? (i := 235) rfl) rfl
theorem wl_1_115 : Cond.fieldLink RX8 306 "NarrowRings$City" "order" "[[I" ∈ WALL := tb1 (List.mem_of_getElem? (i := 115) rfl) rfl
theorem hd_X8_savingOf : yX8_savingOf.cls ≠ "java/lang/invoke/MethodHandle" ∧ yX8_savingOf.cls ≠ "java/lang/invoke/VarHandle" ∧ (parseMethodDescriptor yX8_savingOf.desc).map (fun d => d.parameters.length) = some 3 := by decide +kernel
set_option maxRecDepth 100000 in
set_option maxHeartbeats 4000000 in
theorem M_X8_savingOf (l : Launch) : MtS l yX8_savingOf (Cond.code yX8_savingOf cX8_savingOf 9 (some .int) :: WALL) { frames := 5, cells := 0, slots := 0, locals := 124 } [18, 0, 0, 0] (some 0) T_X8_savingOf := by
  refine MtS.mk (B := E_X8_savingOf) (by decide +kernel) (by decide) (fun _ _ _ hh => hh) ?_
  intro X Q e1 e2 e3 hC hN hT
  subst e1
  have hC : CF X cX8_savingOf RX8 WALL := hC
  have S_43 : SdS X 43 [(0, 18), (1, 0), (2, 0), (3, 0), (4, 100), (5, 0), (6, 0)] [] (B_X8_savingOf_43 Q) := by
    unfold B_X8_savingOf_43
    refine su_iconst hC dX8_savingOf_43 ⟨by decide, by decide⟩ (?_ : SdS X 44 [(0, 18), (1, 0), (2, 0), (3, 0), (4, 100), (5, 0), (6, 0)] [0] _)
    exact su_ireturn hC hT dX8_savingOf_44
  have S_123 : ∀ (k61 : xK), SdS X 61 [(0, 18), (1, 0), (2, 0), (3, 0), (4, 100), (5, 0), (6, 0), (7, 0), (8, 0)] [] k61 → SdS X 123 [(0, 18), (1, 0), (2, 0), (3, 0), (4, 100), (5, 0), (6, 0), (7, 0), (8, 0)] [0, 0] (B_X8_savingOf_123 Q k61) := by
    intro k61 h61
    unfold B_X8_savingOf_123
    refine su_isub hC dX8_savingOf_123 (?_ : SdS X 124 [(0, 18), (1, 0), (2, 0), (3, 0), (4, 100), (5, 0), (6, 0), (7, 0), (8, 0)] [0] _)
    refine su_istore (Γ' := [(0, 18), (1, 0), (2, 0), (3, 0), (4, 100), (5, 0), (6, 0), (7, 0), (8, 0)]) hC dX8_savingOf_124 (by rw [e2]; decide) (by decide) (?_ : SdS X 126 [(0, 18), (1, 0), (2, 0), (3, 0), (4, 100), (5, 0), (6, 0), (7, 0), (8, 0)] [] _)
    refine su_iinc (Γ' := [(0, 18), (1, 0), (2, 0), (3, 0), (4, 100), (5, 0), (6, 0), (7, 0), (8, 0)]) hC dX8_savingOf_126 (by decide) (by rw [e2]; decide) (by decide) (?_ : SdS X 129 [(0, 18), (1, 0), (2, 0), (3, 0), (4, 100), (5, 0), (6, 0), (7, 0), (8, 0)] [] _)
    refine su_goto (tgt := 61) hC dX8_savingOf_129 rfl (?_ : SdS X 61 [(0, 18), (1, 0), (2, 0), (3, 0), (4, 100), (5, 0), (6, 0), (7, 0), (8, 0)] [] _)
    exact SdS.weak (by decide) h61
  have S_61 : SdS X 61 [(0, 18), (1, 0), (2, 0), (3, 0), (4, 100), (5, 0), (6, 0), (7, 0), (8, 0)] [] (L_X8_savingOf_61 Q) := by
    unfold L_X8_savingOf_61
    refine SdS.loop (fun k61 h61 => ?_)
    refine su_iload hC dX8_savingOf_61 (by decide) (?_ : SdS X 63 [(0, 18), (1, 0), (2, 0), (3, 0), (4, 100), (5, 0), (6, 0), (7, 0), (8, 0)] [0] _)
    refine su_aload_n hC 18 dX8_savingOf_63 rfl (by decide) (by decide) (?_ : SdS X 64 [(0, 18), (1, 0), (2, 0), (3, 0), (4, 100), (5, 0), (6, 0), (7, 0), (8, 0)] [18, 0] _)
    refine su_getR hC (ci := 8) (j := 2) (C := RX8) (T := TX8) (N := 18) rfl rfl (by decide) in_X8 wl_2_110 rfl dX8_savingOf_64 (?_ : SdS X 67 [(0, 18), (1, 0), (2, 0), (3, 0), (4, 100), (5, 0), (6, 0), (7, 0), (8, 0)] [11, 0] _)
    refine su_getF hC (ci := 1) (j := 4) (C := RX1) (T := TX1) (N := 12) rfl rfl (by decide) in_X1 wl_1_98 rfl dX8_savingOf_67 (?_ : SdS X 70 [(0, 18), (1, 0), (2, 0), (3, 0), (4, 100), (5, 0), (6, 0), (7, 0), (8, 0)] [0, 0] _)
    refine su_icmp_ge (tgt := 132) hC dX8_savingOf_70 rfl (?_ : SdS X 132 [(0, 18), (1, 0), (2, 0), (3, 0), (4, 100), (5, 0), (6, 0), (7, 0), (8, 0)] [] _) (?_ : SdS X 73 [(0, 18), (1, 0), (2, 0), (3, 0), (4, 100), (5, 0), (6, 0), (7, 0), (8, 0)] [] _)
    · refine su_aload hC 100 dX8_savingOf_132 (by decide) (by decide) (?_ : SdS X 134 [(0, 18), (1, 0), (2, 0), (3, 0), (4, 100), (5, 0), (6, 0), (7, 0), (8, 0)] [100] _)
      refine su_iconst hC dX8_savingOf_134 ⟨by decide, by decide⟩ (?_ : SdS X 135 [(0, 18), (1, 0), (2, 0), (3, 0), (4, 100), (5, 0), (6, 0), (7, 0), (8, 0)] [0, 100] _)
      refine su_iload hC dX8_savingOf_135 (by decide) (?_ : SdS X 137 [(0, 18), (1, 0), (2, 0), (3, 0), (4, 100), (5, 0), (6, 0), (7, 0), (8, 0)] [0, 0, 100] _)
      refine su_iastore hC dX8_savingOf_137 (?_ : SdS X 138 [(0, 18), (1, 0), (2, 0), (3, 0), (4, 100), (5, 0), (6, 0), (7, 0), (8, 0)] [] _)
      refine su_aload hC 100 dX8_savingOf_138 (by decide) (by decide) (?_ : SdS X 140 [(0, 18), (1, 0), (2, 0), (3, 0), (4, 100), (5, 0), (6, 0), (7, 0), (8, 0)] [100] _)
      refine su_iconst hC dX8_savingOf_140 ⟨by decide, by decide⟩ (?_ : SdS X 141 [(0, 18), (1, 0), (2, 0), (3, 0), (4, 100), (5, 0), (6, 0), (7, 0), (8, 0)] [0, 100] _)
      refine su_iload hC dX8_savingOf_141 (by decide) (?_ : SdS X 143 [(0, 18), (1, 0), (2, 0), (3, 0), (4, 100), (5, 0), (6, 0), (7, 0), (8, 0)] [0, 0, 100] _)
      refine su_iastore hC dX8_savingOf_143 (?_ : SdS X 144 [(0, 18), (1, 0), (2, 0), (3, 0), (4, 100), (5, 0), (6, 0), (7, 0), (8, 0)] [] _)
      refine su_iload hC dX8_savingOf_144 (by decide) (?_ : SdS X 146 [(0, 18), (1, 0), (2, 0), (3, 0), (4, 100), (5, 0), (6, 0), (7, 0), (8, 0)] [0] _)
      exact su_ireturn hC hT dX8_savingOf_146
    · refine su_aload_n hC 18 dX8_savingOf_73 rfl (by decide) (by decide) (?_ : SdS X 74 [(0, 18), (1, 0), (2, 0), (3, 0), (4, 100), (5, 0), (6, 0), (7, 0), (8, 0)] [18] _)
      refine su_getR hC (ci := 8) (j := 5) (C := RX8) (T := TX8) (N := 18) rfl rfl (by decide) in_X8 wl_2_113 rfl dX8_savingOf_74 (?_ : SdS X 77 [(0, 18), (1, 0), (2, 0), (3, 0), (4, 100), (5, 0), (6, 0), (7, 0), (8, 0)] [13] _)
      refine su_aload_n hC 18 dX8_savingOf_77 rfl (by decide) (by decide) (?_ : SdS X 78 [(0, 18), (1, 0), (2, 0), (3, 0), (4, 100), (5, 0), (6, 0), (7, 0), (8, 0)] [18, 13] _)
      refine su_getR hC (ci := 8) (j := 2) (C := RX8) (T := TX8) (N := 18) rfl rfl (by decide) in_X8 wl_2_110 rfl dX8_savingOf_78 (?_ : SdS X 81 [(0, 18), (1, 0), (2, 0), (3, 0), (4, 100), (5, 0), (6, 0), (7, 0), (8, 0)] [11, 13] _)
      refine su_aload_n hC 18 dX8_savingOf_81 rfl (by decide) (by decide) (?_ : SdS X 82 [(0, 18), (1, 0), (2, 0), (3, 0), (4, 100), (5, 0), (6, 0), (7, 0), (8, 0)] [18, 11, 13] _)
      refine su_getR hC (ci := 8) (j := 2) (C := RX8) (T := TX8) (N := 18) rfl rfl (by decide) in_X8 wl_2_110 rfl dX8_savingOf_82 (?_ : SdS X 85 [(0, 18), (1, 0), (2, 0), (3, 0), (4, 100), (5, 0), (6, 0), (7, 0), (8, 0)] [11, 11, 13] _)
      refine su_getR hC (ci := 1) (j := 9) (C := RX1) (T := TX1) (N := 12) rfl rfl (by decide) in_X1 wl_1_115 rfl dX8_savingOf_85 (?_ : SdS X 88 [(0, 18), (1, 0), (2, 0), (3, 0), (4, 100), (5, 0), (6, 0), (7, 0), (8, 0)] [200, 11, 13] _)
      refine su_iload hC dX8_savingOf_88 (by decide) (?_ : SdS X 90 [(0, 18), (1, 0), (2, 0), (3, 0), (4, 100), (5, 0), (6, 0), (7, 0), (8, 0)] [0, 200, 11, 13] _)
      refine su_aaload (e := 100) hC (List.mem_of_getElem? (i := 7) rfl) rfl rfl rfl dX8_savingOf_90 (?_ : SdS X 91 [(0, 18), (1, 0), (2, 0), (3, 0), (4, 100), (5, 0), (6, 0), (7, 0), (8, 0)] [100, 11, 13] _)
      refine su_aload_n hC 18 dX8_savingOf_91 rfl (by decide) (by decide) (?_ : SdS X 92 [(0, 18), (1, 0), (2, 0), (3, 0), (4, 100), (5, 0), (6, 0), (7, 0), (8, 0)] [18, 100, 11, 13] _)
      refine su_getR hC (ci := 8) (j := 7) (C := RX8) (T := TX8) (N := 18) rfl rfl (by decide) in_X8 wl_2_115 rfl dX8_savingOf_92 (?_ : SdS X 95 [(0, 18), (1, 0), (2, 0), (3, 0), (4, 100), (5, 0), (6, 0), (7, 0), (8, 0)] [17, 100, 11, 13] _)
      refine su_inv0v (τ := []) (τr := [11, 100, 17]) (ci := 3) (q := (RX3, TX3, 6)) hC WG (M_X3_seek _) rfl rfl rfl rfl  rfl rfl wl_3_127 wl_3_128 wl_3_129 wl_1_5 wl_3_130 hd_X3_seek (by rw [e3]; decide) (by decide) dX8_savingOf_95 (?_ : SdS X 98 [(0, 18), (1, 0), (2, 0), (3, 0), (4, 100), (5, 0), (6, 0), (7, 0), (8, 0)] [] _)
      refine su_iload hC dX8_savingOf_98 (by decide) (?_ : SdS X 100 [(0, 18), (1, 0), (2, 0), (3, 0), (4, 100), (5, 0), (6, 0), (7, 0), (8, 0)] [0] _)
      refine su_aload_n hC 18 dX8_savingOf_100 rfl (by decide) (by decide) (?_ : SdS X 101 [(0, 18), (1, 0), (2, 0), (3, 0), (4, 100), (5, 0), (6, 0), (7, 0), (8, 0)] [18, 0] _)
      refine su_getR hC (ci := 8) (j := 7) (C := RX8) (T := TX8) (N := 18) rfl rfl (by decide) in_X8 wl_2_115 rfl dX8_savingOf_101 (?_ : SdS X 104 [(0, 18), (1, 0), (2, 0), (3, 0), (4, 100), (5, 0), (6, 0), (7, 0), (8, 0)] [17, 0] _)
      refine su_getF hC (ci := 7) (j := 0) (C := RX7) (T := TX7) (N := 7) rfl rfl (by decide) in_X7 wl_1_235 rfl dX8_savingOf_104 (?_ : SdS X 107 [(0, 18), (1, 0), (2, 0), (3, 0), (4, 100), (5, 0), (6, 0), (7, 0), (8, 0)] [0, 0] _)
      refine su_if_eq (tgt := 120) hC dX8_savingOf_107 rfl (?_ : SdS X 120 [(0, 18), (1, 0), (2, 0), (3, 0), (4, 100), (5, 0), (6, 0), (7, 0), (8, 0)] [0] _) (?_ : SdS X 110 [(0, 18), (1, 0), (2, 0), (3, 0), (4, 100), (5, 0), (6, 0), (7, 0), (8, 0)] [0] _)
      · refine su_sipush hC dX8_savingOf_120 (by decide) (?_ : SdS X 123 [(0, 18), (1, 0), (2, 0), (3, 0), (4, 100), (5, 0), (6, 0), (7, 0), (8, 0)] [0, 0] _)
        exact SdS.weak (by decide) (S_123 k61 h61)
      · refine su_aload_n hC 18 dX8_savingOf_110 rfl (by decide) (by decide) (?_ : SdS X 111 [(0, 18), (1, 0), (2, 0), (3, 0), (4, 100), (5, 0), (6, 0), (7, 0), (8, 0)] [18, 0] _)
        refine su_getR hC (ci := 8) (j := 7) (C := RX8) (T := TX8) (N := 18) rfl rfl (by decide) in_X8 wl_2_115 rfl dX8_savingOf_111 (?_ : SdS X 114 [(0, 18), (1, 0), (2, 0), (3, 0), (4, 100), (5, 0), (6, 0), (7, 0), (8, 0)] [17, 0] _)
        refine su_getF hC (ci := 7) (j := 2) (C := RX7) (T := TX7) (N := 7) rfl rfl (by decide) in_X7 wl_2_0 rfl dX8_savingOf_114 (?_ : SdS X 117 [(0, 18), (1, 0), (2, 0), (3, 0), (4, 100), (5, 0), (6, 0), (7, 0), (8, 0)] [0, 0] _)
        refine su_goto (tgt := 123) hC dX8_savingOf_117 rfl (?_ : SdS X 123 [(0, 18), (1, 0), (2, 0), (3, 0), (4, 100), (5, 0), (6, 0), (7, 0), (8, 0)] [0, 0] _)
        exact SdS.weak (by decide) (S_123 k61 h61)
  have S_45 : SdS X 45 [(0, 18), (1, 0), (2, 0), (3, 0), (4, 100), (5, 0), (6, 0)] [] (B_X8_savingOf_45 Q) := by
    unfold B_X8_savingOf_45
    refine su_aload_n hC 18 dX8_savingOf_45 rfl (by decide) (by decide) (?_ : SdS X 46 [(0, 18), (1, 0), (2, 0), (3, 0), (4, 100), (5, 0), (6, 0)] [18] _)
    refine su_inv0 (τ := []) (τr := []) (ci := 8) (q := (RX8, TX8, 18)) hC WG (M_X8_allPay _) rfl rfl rfl rfl  rfl rfl wl_4_103 wl_4_105 wp_44 wl_1_1 wl_4_106 hd_X8_allPay (by rw [e3]; decide) (by decide) dX8_savingOf_46 (?_ : SdS X 49 [(0, 18), (1, 0), (2, 0), (3, 0), (4, 100), (5, 0), (6, 0)] [0] _)
    refine su_istore (Γ' := [(0, 18), (1, 0), (2, 0), (3, 0), (4, 100), (5, 0), (6, 0), (7, 0)]) hC dX8_savingOf_49 (by rw [e2]; decide) (by decide) (?_ : SdS X 51 [(0, 18), (1, 0), (2, 0), (3, 0), (4, 100), (5, 0), (6, 0), (7, 0)] [] _)
    refine su_aload hC 100 dX8_savingOf_51 (by decide) (by decide) (?_ : SdS X 53 [(0, 18), (1, 0), (2, 0), (3, 0), (4, 100), (5, 0), (6, 0), (7, 0)] [100] _)
    refine su_iload_n hC dX8_savingOf_53 rfl (by decide) (?_ : SdS X 54 [(0, 18), (1, 0), (2, 0), (3, 0), (4, 100), (5, 0), (6, 0), (7, 0)] [0, 100] _)
    refine su_iload_n hC dX8_savingOf_54 rfl (by decide) (?_ : SdS X 55 [(0, 18), (1, 0), (2, 0), (3, 0), (4, 100), (5, 0), (6, 0), (7, 0)] [0, 0, 100] _)
    refine su_invsv (τ := []) (τs := [100, 0, 0]) hC false "" WG (M_X8_enlarge _) rfl rfl rfl rfl wl_4_233 wl_4_234 wl_1_1 wl_4_235 hd_X8_enlarge (by rw [e3]; decide) (by decide) dX8_savingOf_55 (?_ : SdS X 58 [(0, 18), (1, 0), (2, 0), (3, 0), (4, 100), (5, 0), (6, 0), (7, 0)] [] _)
    refine su_iconst hC dX8_savingOf_58 ⟨by decide, by decide⟩ (?_ : SdS X 59 [(0, 18), (1, 0), (2, 0), (3, 0), (4, 100), (5, 0), (6, 0), (7, 0)] [0] _)
    refine su_istore (Γ' := [(0, 18), (1, 0), (2, 0), (3, 0), (4, 100), (5, 0), (6, 0), (7, 0), (8, 0)]) hC dX8_savingOf_59 (by rw [e2]; decide) (by decide) (?_ : SdS X 61 [(0, 18), (1, 0), (2, 0), (3, 0), (4, 100), (5, 0), (6, 0), (7, 0), (8, 0)] [] _)
    exact SdS.weak (by decide) (S_61)
  refine (?_ : SdS X 0 [(0, 18), (1, 0), (2, 0), (3, 0)] [] (E_X8_savingOf Q))
  unfold E_X8_savingOf
  refine su_aload_n hC 18 dX8_savingOf_0 rfl (by decide) (by decide) (?_ : SdS X 1 [(0, 18), (1, 0), (2, 0), (3, 0)] [18] _)
  refine su_getR hC (ci := 8) (j := 2) (C := RX8) (T := TX8) (N := 18) rfl rfl (by decide) in_X8 wl_2_110 rfl dX8_savingOf_1 (?_ : SdS X 4 [(0, 18), (1, 0), (2, 0), (3, 0)] [11] _)
  refine su_getR hC (ci := 1) (j := 6) (C := RX1) (T := TX1) (N := 12) rfl rfl (by decide) in_X1 wl_1_104 rfl dX8_savingOf_4 (?_ : SdS X 7 [(0, 18), (1, 0), (2, 0), (3, 0)] [200] _)
  refine su_iload_n hC dX8_savingOf_7 rfl (by decide) (?_ : SdS X 8 [(0, 18), (1, 0), (2, 0), (3, 0)] [0, 200] _)
  refine su_aaload (e := 100) hC (List.mem_of_getElem? (i := 7) rfl) rfl rfl rfl dX8_savingOf_8 (?_ : SdS X 9 [(0, 18), (1, 0), (2, 0), (3, 0)] [100] _)
  refine su_astore (Γ' := [(0, 18), (1, 0), (2, 0), (3, 0), (4, 100)]) hC dX8_savingOf_9 (by decide) (by rw [e2]; decide) (by decide) (?_ : SdS X 11 [(0, 18), (1, 0), (2, 0), (3, 0), (4, 100)] [] _)
  refine su_aload hC 100 dX8_savingOf_11 (by decide) (by decide) (?_ : SdS X 13 [(0, 18), (1, 0), (2, 0), (3, 0), (4, 100)] [100] _)
  refine su_iconst hC dX8_savingOf_13 ⟨by decide, by decide⟩ (?_ : SdS X 14 [(0, 18), (1, 0), (2, 0), (3, 0), (4, 100)] [0, 100] _)
  refine su_iaload hC dX8_savingOf_14 (?_ : SdS X 15 [(0, 18), (1, 0), (2, 0), (3, 0), (4, 100)] [0] _)
  refine su_istore (Γ' := [(0, 18), (1, 0), (2, 0), (3, 0), (4, 100), (5, 0)]) hC dX8_savingOf_15 (by rw [e2]; decide) (by decide) (?_ : SdS X 17 [(0, 18), (1, 0), (2, 0), (3, 0), (4, 100), (5, 0)] [] _)
  refine su_aload hC 100 dX8_savingOf_17 (by decide) (by decide) (?_ : SdS X 19 [(0, 18), (1, 0), (2, 0), (3, 0), (4, 100), (5, 0)] [100] _)
  refine su_iconst hC dX8_savingOf_19 ⟨by decide, by decide⟩ (?_ : SdS X 20 [(0, 18), (1, 0), (2, 0), (3, 0), (4, 100), (5, 0)] [0, 100] _)
  refine su_iaload hC dX8_savingOf_20 (?_ : SdS X 21 [(0, 18), (1, 0), (2, 0), (3, 0), (4, 100), (5, 0)] [0] _)
  refine su_istore (Γ' := [(0, 18), (1, 0), (2, 0), (3, 0), (4, 100), (5, 0), (6, 0)]) hC dX8_savingOf_21 (by rw [e2]; decide) (by decide) (?_ : SdS X 23 [(0, 18), (1, 0), (2, 0), (3, 0), (4, 100), (5, 0), (6, 0)] [] _)
  refine su_aload hC 100 dX8_savingOf_23 (by decide) (by decide) (?_ : SdS X 25 [(0, 18), (1, 0), (2, 0), (3, 0), (4, 100), (5, 0), (6, 0)] [100] _)
  refine su_bipush hC dX8_savingOf_25 (by decide) (?_ : SdS X 27 [(0, 18), (1, 0), (2, 0), (3, 0), (4, 100), (5, 0), (6, 0)] [0, 100] _)
  refine su_iaload hC dX8_savingOf_27 (?_ : SdS X 28 [(0, 18), (1, 0), (2, 0), (3, 0), (4, 100), (5, 0), (6, 0)] [0] _)
  refine su_if_ne (tgt := 43) hC dX8_savingOf_28 rfl (?_ : SdS X 43 [(0, 18), (1, 0), (2, 0), (3, 0), (4, 100), (5, 0), (6, 0)] [] _) (?_ : SdS X 31 [(0, 18), (1, 0), (2, 0), (3, 0), (4, 100), (5, 0), (6, 0)] [] _)
  · exact SdS.weak (by decide) (S_43)
  · refine su_iload_n hC dX8_savingOf_31 rfl (by decide) (?_ : SdS X 32 [(0, 18), (1, 0), (2, 0), (3, 0), (4, 100), (5, 0), (6, 0)] [0] _)
    refine su_iload hC dX8_savingOf_32 (by decide) (?_ : SdS X 34 [(0, 18), (1, 0), (2, 0), (3, 0), (4, 100), (5, 0), (6, 0)] [0, 0] _)
    refine su_icmp_gt (tgt := 45) hC dX8_savingOf_34 rfl (?_ : SdS X 45 [(0, 18), (1, 0), (2, 0), (3, 0), (4, 100), (5, 0), (6, 0)] [] _) (?_ : SdS X 37 [(0, 18), (1, 0), (2, 0), (3, 0), (4, 100), (5, 0), (6, 0)] [] _)
    · exact SdS.weak (by decide) (S_45)
    · refine su_iload_n hC dX8_savingOf_37 rfl (by decide) (?_ : SdS X 38 [(0, 18), (1, 0), (2, 0), (3, 0), (4, 100), (5, 0), (6, 0)] [0] _)
      refine su_iload hC dX8_savingOf_38 (by decide) (?_ : SdS X 40 [(0, 18), (1, 0), (2, 0), (3, 0), (4, 100), (5, 0), (6, 0)] [0, 0] _)
      refine su_icmp_gt (tgt := 45) hC dX8_savingOf_40 rfl (?_ : SdS X 45 [(0, 18), (1, 0), (2, 0), (3, 0), (4, 100), (5, 0), (6, 0)] [] _) (?_ : SdS X 43 [(0, 18), (1, 0), (2, 0), (3, 0), (4, 100), (5, 0), (6, 0)] [] _)
      · exact SdS.weak (by decide) (S_45)
      · exact SdS.weak (by decide) (S_43)
theorem wl_4_226 : Cond.methodLink RX8 254 yX8_isSize ∈ WALL := tb4 (List.mem_of_getElem? (i := 226) rfl) rfl
theorem wl_4_227 : Cond.static yX8_isSize ∈ WALL := tb4 (List.mem_of_getElem? (i := 227) rfl) rfl
theorem wl_4_228 : Cond.code yX8_isSize cX8_isSize 1 (some .boolean) ∈ WALL := tb4 (List.mem_of_getElem? (i := 228) rfl) rfl
theorem wl_4_229 : Cond.methodLink RX8 257 yX8_savingOf ∈ WALL := tb4 (List.mem_of_getElem? (i := 229) rfl) rfl
theorem wl_4_231 : Cond.instanceMethod yX8_savingOf ∈ WALL := tb4 (List.mem_of_getElem? (i := 231) rfl) rfl
theorem wp_58 : Cond.selects RX8 yX8_savingOf yX8_savingOf ∈ WALL := tbS (List.mem_of_getElem? (i := 58) rfl)
theorem wl_4_232 : Cond.code yX8_savingOf cX8_savingOf 9 (some .int) ∈ WALL := tb4 (List.mem_of_getElem? (i := 232) rfl) rfl
theorem hd_X8_breach : yX8_breach.cls ≠ "java/lang/invoke/MethodHandle" ∧ yX8_breach.cls ≠ "java/lang/invoke/VarHandle" ∧ (parseMethodDescriptor yX8_breach.desc).map (fun d => d.parameters.length) = some 2 := by decide +kernel
set_option maxRecDepth 100000 in
set_option maxHeartbeats 4000000 in
theorem M_X8_breach (l : Launch) : MtS l yX8_breach (Cond.code yX8_breach cX8_breach 7 (some .int) :: WALL) { frames := 6, cells := 0, slots := 0, locals := 152 } [18, 0, 0] (some 0) T_X8_breach := by
  refine MtS.mk (B := E_X8_breach) (by decide +kernel) (by decide) (fun _ _ _ hh => hh) ?_
  intro X Q e1 e2 e3 hC hN hT
  subst e1
  have hC : CF X cX8_breach RX8 WALL := hC
  have S_27 : SdS X 27 [(0, 18), (1, 0), (2, 0)] [] (B_X8_breach_27 Q) := by
    unfold B_X8_breach_27
    refine su_aload_n hC 18 dX8_breach_27 rfl (by decide) (by decide) (?_ : SdS X 28 [(0, 18), (1, 0), (2, 0)] [18] _)
    refine su_iconst hC dX8_breach_28 ⟨by decide, by decide⟩ (?_ : SdS X 29 [(0, 18), (1, 0), (2, 0)] [0, 18] _)
    refine su_inv0 (τ := []) (τr := [0]) (ci := 8) (q := (RX8, TX8, 18)) hC WG (M_X8_refuse _) rfl rfl rfl rfl  rfl rfl wl_2_175 wl_2_177 wp_1 wl_1_1 wl_2_178 hd_X8_refuse (by rw [e3]; decide) (by decide) dX8_breach_29 (?_ : SdS X 32 [(0, 18), (1, 0), (2, 0)] [0] _)
    exact su_ireturn hC hT dX8_breach_32
  have S_100 : ∀ (k64 : xK), SdS X 64 [(0, 18), (1, 0), (2, 0), (3, 0), (4, 0), (5, 0)] [] k64 → SdS X 100 [(0, 18), (1, 0), (2, 0), (3, 0), (4, 0), (5, 0), (6, 0)] [] (B_X8_breach_100 Q k64) := by
    intro k64 h64
    unfold B_X8_breach_100
    refine su_iinc (Γ' := [(0, 18), (1, 0), (2, 0), (3, 0), (4, 0), (5, 0), (6, 0)]) hC dX8_breach_100 (by decide) (by rw [e2]; decide) (by decide) (?_ : SdS X 103 [(0, 18), (1, 0), (2, 0), (3, 0), (4, 0), (5, 0), (6, 0)] [] _)
    refine su_goto (tgt := 64) hC dX8_breach_103 rfl (?_ : SdS X 64 [(0, 18), (1, 0), (2, 0), (3, 0), (4, 0), (5, 0), (6, 0)] [] _)
    exact SdS.weak (by decide) h64
  have S_64 : SdS X 64 [(0, 18), (1, 0), (2, 0), (3, 0), (4, 0), (5, 0)] [] (L_X8_breach_64 Q) := by
    unfold L_X8_breach_64
    refine SdS.loop (fun k64 h64 => ?_)
    refine su_iload hC dX8_breach_64 (by decide) (?_ : SdS X 66 [(0, 18), (1, 0), (2, 0), (3, 0), (4, 0), (5, 0)] [0] _)
    refine su_aload_n hC 18 dX8_breach_66 rfl (by decide) (by decide) (?_ : SdS X 67 [(0, 18), (1, 0), (2, 0), (3, 0), (4, 0), (5, 0)] [18, 0] _)
    refine su_getR hC (ci := 8) (j := 2) (C := RX8) (T := TX8) (N := 18) rfl rfl (by decide) in_X8 wl_2_110 rfl dX8_breach_67 (?_ : SdS X 70 [(0, 18), (1, 0), (2, 0), (3, 0), (4, 0), (5, 0)] [11, 0] _)
    refine su_getF hC (ci := 1) (j := 1) (C := RX1) (T := TX1) (N := 12) rfl rfl (by decide) in_X1 wl_1_87 rfl dX8_breach_70 (?_ : SdS X 73 [(0, 18), (1, 0), (2, 0), (3, 0), (4, 0), (5, 0)] [0, 0] _)
    refine su_icmp_ge (tgt := 106) hC dX8_breach_73 rfl (?_ : SdS X 106 [(0, 18), (1, 0), (2, 0), (3, 0), (4, 0), (5, 0)] [] _) (?_ : SdS X 76 [(0, 18), (1, 0), (2, 0), (3, 0), (4, 0), (5, 0)] [] _)
    · refine su_aload_n hC 18 dX8_breach_106 rfl (by decide) (by decide) (?_ : SdS X 107 [(0, 18), (1, 0), (2, 0), (3, 0), (4, 0), (5, 0)] [18] _)
      refine su_iload_n hC dX8_breach_107 rfl (by decide) (?_ : SdS X 108 [(0, 18), (1, 0), (2, 0), (3, 0), (4, 0), (5, 0)] [0, 18] _)
      refine su_inv0 (τ := []) (τr := [0]) (ci := 8) (q := (RX8, TX8, 18)) hC WG (M_X8_grant _) rfl rfl rfl rfl  rfl rfl wl_3_225 wl_3_227 wp_34 wl_1_1 wl_3_228 hd_X8_grant (by rw [e3]; decide) (by decide) dX8_breach_108 (?_ : SdS X 111 [(0, 18), (1, 0), (2, 0), (3, 0), (4, 0), (5, 0)] [0] _)
      exact su_ireturn hC hT dX8_breach_111
    · refine su_aload_n hC 18 dX8_breach_76 rfl (by decide) (by decide) (?_ : SdS X 77 [(0, 18), (1, 0), (2, 0), (3, 0), (4, 0), (5, 0)] [18] _)
      refine su_iload hC dX8_breach_77 (by decide) (?_ : SdS X 79 [(0, 18), (1, 0), (2, 0), (3, 0), (4, 0), (5, 0)] [0, 18] _)
      refine su_iload_n hC dX8_breach_79 rfl (by decide) (?_ : SdS X 80 [(0, 18), (1, 0), (2, 0), (3, 0), (4, 0), (5, 0)] [0, 0, 18] _)
      refine su_iload_n hC dX8_breach_80 rfl (by decide) (?_ : SdS X 81 [(0, 18), (1, 0), (2, 0), (3, 0), (4, 0), (5, 0)] [0, 0, 0, 18] _)
      refine su_inv0 (τ := []) (τr := [0, 0, 0]) (ci := 8) (q := (RX8, TX8, 18)) hC WG (M_X8_savingOf _) rfl rfl rfl rfl  rfl rfl wl_4_229 wl_4_231 wp_58 wl_1_1 wl_4_232 hd_X8_savingOf (by rw [e3]; decide) (by decide) dX8_breach_81 (?_ : SdS X 84 [(0, 18), (1, 0), (2, 0), (3, 0), (4, 0), (5, 0)] [0] _)
      refine su_istore (Γ' := [(0, 18), (1, 0), (2, 0), (3, 0), (4, 0), (5, 0), (6, 0)]) hC dX8_breach_84 (by rw [e2]; decide) (by decide) (?_ : SdS X 86 [(0, 18), (1, 0), (2, 0), (3, 0), (4, 0), (5, 0), (6, 0)] [] _)
      refine su_iload hC dX8_breach_86 (by decide) (?_ : SdS X 88 [(0, 18), (1, 0), (2, 0), (3, 0), (4, 0), (5, 0), (6, 0)] [0] _)
      refine su_iload hC dX8_breach_88 (by decide) (?_ : SdS X 90 [(0, 18), (1, 0), (2, 0), (3, 0), (4, 0), (5, 0), (6, 0)] [0, 0] _)
      refine su_icmp_le (tgt := 100) hC dX8_breach_90 rfl (?_ : SdS X 100 [(0, 18), (1, 0), (2, 0), (3, 0), (4, 0), (5, 0), (6, 0)] [] _) (?_ : SdS X 93 [(0, 18), (1, 0), (2, 0), (3, 0), (4, 0), (5, 0), (6, 0)] [] _)
      · exact SdS.weak (by decide) (S_100 k64 h64)
      · refine su_iload hC dX8_breach_93 (by decide) (?_ : SdS X 95 [(0, 18), (1, 0), (2, 0), (3, 0), (4, 0), (5, 0), (6, 0)] [0] _)
        refine su_istore (Γ' := [(0, 18), (1, 0), (2, 0), (3, 0), (4, 0), (5, 0), (6, 0)]) hC dX8_breach_95 (by rw [e2]; decide) (by decide) (?_ : SdS X 97 [(0, 18), (1, 0), (2, 0), (3, 0), (4, 0), (5, 0), (6, 0)] [] _)
        refine su_iload hC dX8_breach_97 (by decide) (?_ : SdS X 99 [(0, 18), (1, 0), (2, 0), (3, 0), (4, 0), (5, 0), (6, 0)] [0] _)
        refine su_istore_n (Γ' := [(0, 18), (1, 0), (2, 0), (3, 0), (4, 0), (5, 0), (6, 0)]) hC dX8_breach_99 rfl (by rw [e2]; decide) (by decide) (?_ : SdS X 100 [(0, 18), (1, 0), (2, 0), (3, 0), (4, 0), (5, 0), (6, 0)] [] _)
        exact SdS.weak (by decide) (S_100 k64 h64)
  refine (?_ : SdS X 0 [(0, 18), (1, 0), (2, 0)] [] (E_X8_breach Q))
  unfold E_X8_breach
  refine su_aload_n hC 18 dX8_breach_0 rfl (by decide) (by decide) (?_ : SdS X 1 [(0, 18), (1, 0), (2, 0)] [18] _)
  refine su_inv0 (τ := []) (τr := []) (ci := 8) (q := (RX8, TX8, 18)) hC WG (M_X8_isCity _) rfl rfl rfl rfl  rfl rfl wl_4_99 wl_4_101 wp_43 wl_1_1 wl_4_102 hd_X8_isCity (by rw [e3]; decide) (by decide) dX8_breach_1 (?_ : SdS X 4 [(0, 18), (1, 0), (2, 0)] [0] _)
  refine su_if_ne (tgt := 13) hC dX8_breach_4 rfl (?_ : SdS X 13 [(0, 18), (1, 0), (2, 0)] [] _) (?_ : SdS X 7 [(0, 18), (1, 0), (2, 0)] [] _)
  · refine su_iload_n hC dX8_breach_13 rfl (by decide) (?_ : SdS X 14 [(0, 18), (1, 0), (2, 0)] [0] _)
    refine su_invs (τ := []) (τs := [0]) hC false "" WG (M_X8_isSize _) rfl rfl rfl rfl wl_4_226 wl_4_227 wl_1_1 wl_4_228 hd_X8_isSize (by rw [e3]; decide) (by decide) dX8_breach_14 (?_ : SdS X 17 [(0, 18), (1, 0), (2, 0)] [0] _)
    refine su_if_eq (tgt := 27) hC dX8_breach_17 rfl (?_ : SdS X 27 [(0, 18), (1, 0), (2, 0)] [] _) (?_ : SdS X 20 [(0, 18), (1, 0), (2, 0)] [] _)
    · exact SdS.weak (by decide) (S_27)
    · refine su_iload_n hC dX8_breach_20 rfl (by decide) (?_ : SdS X 21 [(0, 18), (1, 0), (2, 0)] [0] _)
      refine su_invs (τ := []) (τs := [0]) hC false "" WG (M_X8_isSize _) rfl rfl rfl rfl wl_4_226 wl_4_227 wl_1_1 wl_4_228 hd_X8_isSize (by rw [e3]; decide) (by decide) dX8_breach_21 (?_ : SdS X 24 [(0, 18), (1, 0), (2, 0)] [0] _)
      refine su_if_ne (tgt := 33) hC dX8_breach_24 rfl (?_ : SdS X 33 [(0, 18), (1, 0), (2, 0)] [] _) (?_ : SdS X 27 [(0, 18), (1, 0), (2, 0)] [] _)
      · refine su_aload_n hC 18 dX8_breach_33 rfl (by decide) (by decide) (?_ : SdS X 34 [(0, 18), (1, 0), (2, 0)] [18] _)
        refine su_getR hC (ci := 8) (j := 2) (C := RX8) (T := TX8) (N := 18) rfl rfl (by decide) in_X8 wl_2_110 rfl dX8_breach_34 (?_ : SdS X 37 [(0, 18), (1, 0), (2, 0)] [11] _)
        refine su_getF hC (ci := 1) (j := 1) (C := RX1) (T := TX1) (N := 12) rfl rfl (by decide) in_X1 wl_1_87 rfl dX8_breach_37 (?_ : SdS X 40 [(0, 18), (1, 0), (2, 0)] [0] _)
        refine su_if_ne (tgt := 50) hC dX8_breach_40 rfl (?_ : SdS X 50 [(0, 18), (1, 0), (2, 0)] [] _) (?_ : SdS X 43 [(0, 18), (1, 0), (2, 0)] [] _)
        · refine su_iconst hC dX8_breach_50 ⟨by decide, by decide⟩ (?_ : SdS X 51 [(0, 18), (1, 0), (2, 0)] [0] _)
          refine su_istore_n (Γ' := [(0, 18), (1, 0), (2, 0), (3, 0)]) hC dX8_breach_51 rfl (by rw [e2]; decide) (by decide) (?_ : SdS X 52 [(0, 18), (1, 0), (2, 0), (3, 0)] [] _)
          refine su_aload_n hC 18 dX8_breach_52 rfl (by decide) (by decide) (?_ : SdS X 53 [(0, 18), (1, 0), (2, 0), (3, 0)] [18] _)
          refine su_iconst hC dX8_breach_53 ⟨by decide, by decide⟩ (?_ : SdS X 54 [(0, 18), (1, 0), (2, 0), (3, 0)] [0, 18] _)
          refine su_iload_n hC dX8_breach_54 rfl (by decide) (?_ : SdS X 55 [(0, 18), (1, 0), (2, 0), (3, 0)] [0, 0, 18] _)
          refine su_iload_n hC dX8_breach_55 rfl (by decide) (?_ : SdS X 56 [(0, 18), (1, 0), (2, 0), (3, 0)] [0, 0, 0, 18] _)
          refine su_inv0 (τ := []) (τr := [0, 0, 0]) (ci := 8) (q := (RX8, TX8, 18)) hC WG (M_X8_savingOf _) rfl rfl rfl rfl  rfl rfl wl_4_229 wl_4_231 wp_58 wl_1_1 wl_4_232 hd_X8_savingOf (by rw [e3]; decide) (by decide) dX8_breach_56 (?_ : SdS X 59 [(0, 18), (1, 0), (2, 0), (3, 0)] [0] _)
          refine su_istore (Γ' := [(0, 18), (1, 0), (2, 0), (3, 0), (4, 0)]) hC dX8_breach_59 (by rw [e2]; decide) (by decide) (?_ : SdS X 61 [(0, 18), (1, 0), (2, 0), (3, 0), (4, 0)] [] _)
          refine su_iconst hC dX8_breach_61 ⟨by decide, by decide⟩ (?_ : SdS X 62 [(0, 18), (1, 0), (2, 0), (3, 0), (4, 0)] [0] _)
          refine su_istore (Γ' := [(0, 18), (1, 0), (2, 0), (3, 0), (4, 0), (5, 0)]) hC dX8_breach_62 (by rw [e2]; decide) (by decide) (?_ : SdS X 64 [(0, 18), (1, 0), (2, 0), (3, 0), (4, 0), (5, 0)] [] _)
          exact SdS.weak (by decide) (S_64)
        · refine su_aload_n hC 18 dX8_breach_43 rfl (by decide) (by decide) (?_ : SdS X 44 [(0, 18), (1, 0), (2, 0)] [18] _)
          refine su_bipush hC dX8_breach_44 (by decide) (?_ : SdS X 46 [(0, 18), (1, 0), (2, 0)] [0, 18] _)
          refine su_inv0 (τ := []) (τr := [0]) (ci := 8) (q := (RX8, TX8, 18)) hC WG (M_X8_refuse _) rfl rfl rfl rfl  rfl rfl wl_2_175 wl_2_177 wp_1 wl_1_1 wl_2_178 hd_X8_refuse (by rw [e3]; decide) (by decide) dX8_breach_46 (?_ : SdS X 49 [(0, 18), (1, 0), (2, 0)] [0] _)
          exact su_ireturn hC hT dX8_breach_49
      · exact SdS.weak (by decide) (S_27)
  · refine su_aload_n hC 18 dX8_breach_7 rfl (by decide) (by decide) (?_ : SdS X 8 [(0, 18), (1, 0), (2, 0)] [18] _)
    refine su_iconst hC dX8_breach_8 ⟨by decide, by decide⟩ (?_ : SdS X 9 [(0, 18), (1, 0), (2, 0)] [0, 18] _)
    refine su_inv0 (τ := []) (τr := [0]) (ci := 8) (q := (RX8, TX8, 18)) hC WG (M_X8_refuse _) rfl rfl rfl rfl  rfl rfl wl_2_175 wl_2_177 wp_1 wl_1_1 wl_2_178 hd_X8_refuse (by rw [e3]; decide) (by decide) dX8_breach_9 (?_ : SdS X 12 [(0, 18), (1, 0), (2, 0)] [0] _)
    exact su_ireturn hC hT dX8_breach_12
theorem wl_2_45 : Cond.fieldLink RX8 235 "NarrowRings$Day" "atGate" "[I" ∈ WALL := tb2 (List.mem_of_getElem? (i := 45) rfl) rfl
theorem hd_X8_busy : yX8_busy.cls ≠ "java/lang/invoke/MethodHandle" ∧ yX8_busy.cls ≠ "java/lang/invoke/VarHandle" ∧ (parseMethodDescriptor yX8_busy.desc).map (fun d => d.parameters.length) = some 1 := by decide +kernel
set_option maxRecDepth 100000 in
set_option maxHeartbeats 4000000 in
theorem M_X8_busy (l : Launch) : MtS l yX8_busy (Cond.code yX8_busy cX8_busy 2 (some .int) :: WALL) { frames := 2, cells := 0, slots := 0, locals := 42 } [18, 0] (some 0) T_X8_busy := by
  refine MtS.mk (B := E_X8_busy) (by decide +kernel) (by decide) (fun _ _ _ hh => hh) ?_
  intro X Q e1 e2 e3 hC hN hT
  subst e1
  have hC : CF X cX8_busy RX8 WALL := hC
  refine (?_ : SdS X 0 [(0, 18), (1, 0)] [] (E_X8_busy Q))
  unfold E_X8_busy
  refine su_aload_n hC 18 dX8_busy_0 rfl (by decide) (by decide) (?_ : SdS X 1 [(0, 18), (1, 0)] [18] _)
  refine su_iload_n hC dX8_busy_1 rfl (by decide) (?_ : SdS X 2 [(0, 18), (1, 0)] [0, 18] _)
  refine su_inv0 (τ := []) (τr := [0]) (ci := 8) (q := (RX8, TX8, 18)) hC WG (M_X8_isGate _) rfl rfl rfl rfl  rfl rfl wl_4_2 wl_4_4 wp_35 wl_1_1 wl_4_5 hd_X8_isGate (by rw [e3]; decide) (by decide) dX8_busy_2 (?_ : SdS X 5 [(0, 18), (1, 0)] [0] _)
  refine su_if_ne (tgt := 14) hC dX8_busy_5 rfl (?_ : SdS X 14 [(0, 18), (1, 0)] [] _) (?_ : SdS X 8 [(0, 18), (1, 0)] [] _)
  · refine su_aload_n hC 18 dX8_busy_14 rfl (by decide) (by decide) (?_ : SdS X 15 [(0, 18), (1, 0)] [18] _)
    refine su_aload_n hC 18 dX8_busy_15 rfl (by decide) (by decide) (?_ : SdS X 16 [(0, 18), (1, 0)] [18, 18] _)
    refine su_getR hC (ci := 8) (j := 9) (C := RX8) (T := TX8) (N := 18) rfl rfl (by decide) in_X8 wl_2_117 rfl dX8_busy_16 (?_ : SdS X 19 [(0, 18), (1, 0)] [12, 18] _)
    refine su_getR hC (ci := 2) (j := 4) (C := RX2) (T := TX2) (N := 10) rfl rfl (by decide) in_X2 wl_2_45 rfl dX8_busy_19 (?_ : SdS X 22 [(0, 18), (1, 0)] [100, 18] _)
    refine su_iload_n hC dX8_busy_22 rfl (by decide) (?_ : SdS X 23 [(0, 18), (1, 0)] [0, 100, 18] _)
    refine su_iaload hC dX8_busy_23 (?_ : SdS X 24 [(0, 18), (1, 0)] [0, 18] _)
    refine su_inv0 (τ := []) (τr := [0]) (ci := 8) (q := (RX8, TX8, 18)) hC WG (M_X8_grant _) rfl rfl rfl rfl  rfl rfl wl_3_225 wl_3_227 wp_34 wl_1_1 wl_3_228 hd_X8_grant (by rw [e3]; decide) (by decide) dX8_busy_24 (?_ : SdS X 27 [(0, 18), (1, 0)] [0] _)
    exact su_ireturn hC hT dX8_busy_27
  · refine su_aload_n hC 18 dX8_busy_8 rfl (by decide) (by decide) (?_ : SdS X 9 [(0, 18), (1, 0)] [18] _)
    refine su_iconst hC dX8_busy_9 ⟨by decide, by decide⟩ (?_ : SdS X 10 [(0, 18), (1, 0)] [0, 18] _)
    refine su_inv0 (τ := []) (τr := [0]) (ci := 8) (q := (RX8, TX8, 18)) hC WG (M_X8_refuse _) rfl rfl rfl rfl  rfl rfl wl_2_175 wl_2_177 wp_1 wl_1_1 wl_2_178 hd_X8_refuse (by rw [e3]; decide) (by decide) dX8_busy_10 (?_ : SdS X 13 [(0, 18), (1, 0)] [0] _)
    exact su_ireturn hC hT dX8_busy_13
theorem wl_1_91 : Cond.fieldLink RX8 229 "NarrowRings$City" "carts" "I" ∈ WALL := tb1 (List.mem_of_getElem? (i := 91) rfl) rfl
theorem wl_2_43 : Cond.fieldLink RX8 232 "NarrowRings$Day" "onCart" "[I" ∈ WALL := tb2 (List.mem_of_getElem? (i := 43) rfl) rfl
theorem hd_X8_cart : yX8_cart.cls ≠ "java/lang/invoke/MethodHandle" ∧ yX8_cart.cls ≠ "java/lang/invoke/VarHandle" ∧ (parseMethodDescriptor yX8_cart.desc).map (fun d => d.parameters.length) = some 1 := by decide +kernel
set_option maxRecDepth 100000 in
set_option maxHeartbeats 4000000 in
theorem M_X8_cart (l : Launch) : MtS l yX8_cart (Cond.code yX8_cart cX8_cart 2 (some .int) :: WALL) { frames := 1, cells := 0, slots := 0, locals := 21 } [18, 0] (some 0) T_X8_cart := by
  refine MtS.mk (B := E_X8_cart) (by decide +kernel) (by decide) (fun _ _ _ hh => hh) ?_
  intro X Q e1 e2 e3 hC hN hT
  subst e1
  have hC : CF X cX8_cart RX8 WALL := hC
  refine (?_ : SdS X 0 [(0, 18), (1, 0)] [] (E_X8_cart Q))
  unfold E_X8_cart
  refine su_iload_n hC dX8_cart_0 rfl (by decide) (?_ : SdS X 1 [(0, 18), (1, 0)] [0] _)
  refine su_aload_n hC 18 dX8_cart_1 rfl (by decide) (by decide) (?_ : SdS X 2 [(0, 18), (1, 0)] [18, 0] _)
  refine su_getR hC (ci := 8) (j := 2) (C := RX8) (T := TX8) (N := 18) rfl rfl (by decide) in_X8 wl_2_110 rfl dX8_cart_2 (?_ : SdS X 5 [(0, 18), (1, 0)] [11, 0] _)
  refine su_getF hC (ci := 1) (j := 2) (C := RX1) (T := TX1) (N := 12) rfl rfl (by decide) in_X1 wl_1_91 rfl dX8_cart_5 (?_ : SdS X 8 [(0, 18), (1, 0)] [0, 0] _)
  refine su_invs (τ := []) (τs := [0, 0]) hC false "" WG (M_X8_within _) rfl rfl rfl rfl wl_4_6 wl_4_7 wl_1_1 wl_4_8 hd_X8_within (by rw [e3]; decide) (by decide) dX8_cart_8 (?_ : SdS X 11 [(0, 18), (1, 0)] [0] _)
  refine su_if_ne (tgt := 20) hC dX8_cart_11 rfl (?_ : SdS X 20 [(0, 18), (1, 0)] [] _) (?_ : SdS X 14 [(0, 18), (1, 0)] [] _)
  · refine su_aload_n hC 18 dX8_cart_20 rfl (by decide) (by decide) (?_ : SdS X 21 [(0, 18), (1, 0)] [18] _)
    refine su_aload_n hC 18 dX8_cart_21 rfl (by decide) (by decide) (?_ : SdS X 22 [(0, 18), (1, 0)] [18, 18] _)
    refine su_getR hC (ci := 8) (j := 9) (C := RX8) (T := TX8) (N := 18) rfl rfl (by decide) in_X8 wl_2_117 rfl dX8_cart_22 (?_ : SdS X 25 [(0, 18), (1, 0)] [12, 18] _)
    refine su_getR hC (ci := 2) (j := 3) (C := RX2) (T := TX2) (N := 10) rfl rfl (by decide) in_X2 wl_2_43 rfl dX8_cart_25 (?_ : SdS X 28 [(0, 18), (1, 0)] [100, 18] _)
    refine su_iload_n hC dX8_cart_28 rfl (by decide) (?_ : SdS X 29 [(0, 18), (1, 0)] [0, 100, 18] _)
    refine su_iaload hC dX8_cart_29 (?_ : SdS X 30 [(0, 18), (1, 0)] [0, 18] _)
    refine su_inv0 (τ := []) (τr := [0]) (ci := 8) (q := (RX8, TX8, 18)) hC WG (M_X8_grant _) rfl rfl rfl rfl  rfl rfl wl_3_225 wl_3_227 wp_34 wl_1_1 wl_3_228 hd_X8_grant (by rw [e3]; decide) (by decide) dX8_cart_30 (?_ : SdS X 33 [(0, 18), (1, 0)] [0] _)
    exact su_ireturn hC hT dX8_cart_33
  · refine su_aload_n hC 18 dX8_cart_14 rfl (by decide) (by decide) (?_ : SdS X 15 [(0, 18), (1, 0)] [18] _)
    refine su_iconst hC dX8_cart_15 ⟨by decide, by decide⟩ (?_ : SdS X 16 [(0, 18), (1, 0)] [0, 18] _)
    refine su_inv0 (τ := []) (τr := [0]) (ci := 8) (q := (RX8, TX8, 18)) hC WG (M_X8_refuse _) rfl rfl rfl rfl  rfl rfl wl_2_175 wl_2_177 wp_1 wl_1_1 wl_2_178 hd_X8_refuse (by rw [e3]; decide) (by decide) dX8_cart_16 (?_ : SdS X 19 [(0, 18), (1, 0)] [0] _)
    exact su_ireturn hC hT dX8_cart_19
theorem hd_X8_planAnew : yX8_planAnew.cls ≠ "java/lang/invoke/MethodHandle" ∧ yX8_planAnew.cls ≠ "java/lang/invoke/VarHandle" ∧ (parseMethodDescriptor yX8_planAnew.desc).map (fun d => d.parameters.length) = some 0 := by decide +kernel
set_option maxRecDepth 100000 in
set_option maxHeartbeats 4000000 in
theorem M_X8_planAnew (l : Launch) : MtS l yX8_planAnew (Cond.code yX8_planAnew cX8_planAnew 2 none :: WALL) { frames := 5, cells := 0, slots := 0, locals := 124 } [18] none T_X8_planAnew := by
  refine MtS.mk (B := E_X8_planAnew) (by decide +kernel) (by decide) (fun _ _ _ hh => hh) ?_
  intro X Q e1 e2 e3 hC hN hT
  subst e1
  have hC : CF X cX8_planAnew RX8 WALL := hC
  have S_2 : SdS X 2 [(0, 18), (1, 0)] [] (L_X8_planAnew_2 Q) := by
    unfold L_X8_planAnew_2
    refine SdS.loop (fun k2 h2 => ?_)
    refine su_iload_n hC dX8_planAnew_2 rfl (by decide) (?_ : SdS X 3 [(0, 18), (1, 0)] [0] _)
    refine su_aload_n hC 18 dX8_planAnew_3 rfl (by decide) (by decide) (?_ : SdS X 4 [(0, 18), (1, 0)] [18, 0] _)
    refine su_getR hC (ci := 8) (j := 2) (C := RX8) (T := TX8) (N := 18) rfl rfl (by decide) in_X8 wl_2_110 rfl dX8_planAnew_4 (?_ : SdS X 7 [(0, 18), (1, 0)] [11, 0] _)
    refine su_getF hC (ci := 1) (j := 4) (C := RX1) (T := TX1) (N := 12) rfl rfl (by decide) in_X1 wl_1_98 rfl dX8_planAnew_7 (?_ : SdS X 10 [(0, 18), (1, 0)] [0, 0] _)
    refine su_icmp_ge (tgt := 45) hC dX8_planAnew_10 rfl (?_ : SdS X 45 [(0, 18), (1, 0)] [] _) (?_ : SdS X 13 [(0, 18), (1, 0)] [] _)
    · refine su_aload_n hC 18 dX8_planAnew_45 rfl (by decide) (by decide) (?_ : SdS X 46 [(0, 18), (1, 0)] [18] _)
      refine su_getR hC (ci := 8) (j := 9) (C := RX8) (T := TX8) (N := 18) rfl rfl (by decide) in_X8 wl_2_117 rfl dX8_planAnew_46 (?_ : SdS X 49 [(0, 18), (1, 0)] [12] _)
      refine su_aload_n hC 18 dX8_planAnew_49 rfl (by decide) (by decide) (?_ : SdS X 50 [(0, 18), (1, 0)] [18, 12] _)
      refine su_getR hC (ci := 8) (j := 2) (C := RX8) (T := TX8) (N := 18) rfl rfl (by decide) in_X8 wl_2_110 rfl dX8_planAnew_50 (?_ : SdS X 53 [(0, 18), (1, 0)] [11, 12] _)
      refine su_aload_n hC 18 dX8_planAnew_53 rfl (by decide) (by decide) (?_ : SdS X 54 [(0, 18), (1, 0)] [18, 11, 12] _)
      refine su_getR hC (ci := 8) (j := 6) (C := RX8) (T := TX8) (N := 18) rfl rfl (by decide) in_X8 wl_2_114 rfl dX8_planAnew_54 (?_ : SdS X 57 [(0, 18), (1, 0)] [117, 11, 12] _)
      refine su_inv0v (τ := []) (τr := [11, 117]) (ci := 2) (q := (RX2, TX2, 10)) hC WG (M_X2_begin _) rfl rfl rfl rfl  rfl rfl wl_3_216 wl_3_217 wl_3_218 wl_1_7 wl_3_219 hd_X2_begin (by rw [e3]; decide) (by decide) dX8_planAnew_57 (?_ : SdS X 60 [(0, 18), (1, 0)] [] _)
      refine su_aload_n hC 18 dX8_planAnew_60 rfl (by decide) (by decide) (?_ : SdS X 61 [(0, 18), (1, 0)] [18] _)
      refine su_iconst hC dX8_planAnew_61 ⟨by decide, by decide⟩ (?_ : SdS X 62 [(0, 18), (1, 0)] [0, 18] _)
      refine su_putF hC (ci := 8) (j := 11) (C := RX8) (T := TX8) (N := 18) tyX8 tyX8_ok nmX8 rfl rfl (by decide) in_X8 rfl rfl wl_2_119 rfl dX8_planAnew_62 (?_ : SdS X 65 [(0, 18), (1, 0)] [] _)
      exact su_return hC hT dX8_planAnew_65
    · refine su_aload_n hC 18 dX8_planAnew_13 rfl (by decide) (by decide) (?_ : SdS X 14 [(0, 18), (1, 0)] [18] _)
      refine su_getR hC (ci := 8) (j := 5) (C := RX8) (T := TX8) (N := 18) rfl rfl (by decide) in_X8 wl_2_113 rfl dX8_planAnew_14 (?_ : SdS X 17 [(0, 18), (1, 0)] [13] _)
      refine su_aload_n hC 18 dX8_planAnew_17 rfl (by decide) (by decide) (?_ : SdS X 18 [(0, 18), (1, 0)] [18, 13] _)
      refine su_getR hC (ci := 8) (j := 2) (C := RX8) (T := TX8) (N := 18) rfl rfl (by decide) in_X8 wl_2_110 rfl dX8_planAnew_18 (?_ : SdS X 21 [(0, 18), (1, 0)] [11, 13] _)
      refine su_aload_n hC 18 dX8_planAnew_21 rfl (by decide) (by decide) (?_ : SdS X 22 [(0, 18), (1, 0)] [18, 11, 13] _)
      refine su_getR hC (ci := 8) (j := 2) (C := RX8) (T := TX8) (N := 18) rfl rfl (by decide) in_X8 wl_2_110 rfl dX8_planAnew_22 (?_ : SdS X 25 [(0, 18), (1, 0)] [11, 11, 13] _)
      refine su_getR hC (ci := 1) (j := 9) (C := RX1) (T := TX1) (N := 12) rfl rfl (by decide) in_X1 wl_1_115 rfl dX8_planAnew_25 (?_ : SdS X 28 [(0, 18), (1, 0)] [200, 11, 13] _)
      refine su_iload_n hC dX8_planAnew_28 rfl (by decide) (?_ : SdS X 29 [(0, 18), (1, 0)] [0, 200, 11, 13] _)
      refine su_aaload (e := 100) hC (List.mem_of_getElem? (i := 7) rfl) rfl rfl rfl dX8_planAnew_29 (?_ : SdS X 30 [(0, 18), (1, 0)] [100, 11, 13] _)
      refine su_aload_n hC 18 dX8_planAnew_30 rfl (by decide) (by decide) (?_ : SdS X 31 [(0, 18), (1, 0)] [18, 100, 11, 13] _)
      refine su_getR hC (ci := 8) (j := 6) (C := RX8) (T := TX8) (N := 18) rfl rfl (by decide) in_X8 wl_2_114 rfl dX8_planAnew_31 (?_ : SdS X 34 [(0, 18), (1, 0)] [117, 100, 11, 13] _)
      refine su_iload_n hC dX8_planAnew_34 rfl (by decide) (?_ : SdS X 35 [(0, 18), (1, 0)] [0, 117, 100, 11, 13] _)
      refine su_aaload (e := 17) hC (List.mem_of_getElem? (i := 6) rfl) rfl rfl rfl dX8_planAnew_35 (?_ : SdS X 36 [(0, 18), (1, 0)] [17, 100, 11, 13] _)
      refine su_inv0v (τ := []) (τr := [11, 100, 17]) (ci := 3) (q := (RX3, TX3, 6)) hC WG (M_X3_seek _) rfl rfl rfl rfl  rfl rfl wl_3_127 wl_3_128 wl_3_129 wl_1_5 wl_3_130 hd_X3_seek (by rw [e3]; decide) (by decide) dX8_planAnew_36 (?_ : SdS X 39 [(0, 18), (1, 0)] [] _)
      refine su_iinc (Γ' := [(0, 18), (1, 0)]) hC dX8_planAnew_39 (by decide) (by rw [e2]; decide) (by decide) (?_ : SdS X 42 [(0, 18), (1, 0)] [] _)
      refine su_goto (tgt := 2) hC dX8_planAnew_42 rfl (?_ : SdS X 2 [(0, 18), (1, 0)] [] _)
      exact SdS.weak (by decide) h2
  refine (?_ : SdS X 0 [(0, 18)] [] (E_X8_planAnew Q))
  unfold E_X8_planAnew
  refine su_iconst hC dX8_planAnew_0 ⟨by decide, by decide⟩ (?_ : SdS X 1 [(0, 18)] [0] _)
  refine su_istore_n (Γ' := [(0, 18), (1, 0)]) hC dX8_planAnew_1 rfl (by rw [e2]; decide) (by decide) (?_ : SdS X 2 [(0, 18), (1, 0)] [] _)
  exact SdS.weak (by decide) (S_2)
theorem wl_2_112 : Cond.fieldLink RX8 28 "NarrowRings" "reader" "LNarrowRings$Reader;" ∈ WALL := tb2 (List.mem_of_getElem? (i := 112) rfl) rfl
theorem wl_2_111 : Cond.fieldLink RX8 20 "NarrowRings" "spare" "LNarrowRings$City;" ∈ WALL := tb2 (List.mem_of_getElem? (i := 111) rfl) rfl
theorem wl_2_179 : Cond.methodLink RX8 101 yX4_read ∈ WALL := tb2 (List.mem_of_getElem? (i := 179) rfl) rfl
theorem wl_2_180 : Cond.instanceMethod yX4_read ∈ WALL := tb2 (List.mem_of_getElem? (i := 180) rfl) rfl
theorem wl_2_181 : Cond.selects RX4 yX4_read yX4_read ∈ WALL := tb2 (List.mem_of_getElem? (i := 181) rfl) rfl
theorem wl_2_182 : Cond.code yX4_read cX4_read 4 (some .int) ∈ WALL := tb2 (List.mem_of_getElem? (i := 182) rfl) rfl
theorem wl_2_123 : Cond.fieldLink RX8 105 "NarrowRings" "fault" "I" ∈ WALL := tb2 (List.mem_of_getElem? (i := 123) rfl) rfl
theorem wl_2_120 : Cond.fieldLink RX8 71 "NarrowRings" "acts" "LNarrowRings$Acts;" ∈ WALL := tb2 (List.mem_of_getElem? (i := 120) rfl) rfl
theorem wl_2_83 : Cond.fieldLink RX8 114 "NarrowRings$Acts" "count" "I" ∈ WALL := tb2 (List.mem_of_getElem? (i := 83) rfl) rfl
theorem wl_3_123 : Cond.methodLink RX8 117 yX8_planAnew ∈ WALL := tb3 (List.mem_of_getElem? (i := 123) rfl) rfl
theorem wl_3_125 : Cond.instanceMethod yX8_planAnew ∈ WALL := tb3 (List.mem_of_getElem? (i := 125) rfl) rfl
theorem wp_25 : Cond.selects RX8 yX8_planAnew yX8_planAnew ∈ WALL := tbS (List.mem_of_getElem? (i := 25) rfl)
theorem wl_3_126 : Cond.code yX8_planAnew cX8_planAnew 2 none ∈ WALL := tb3 (List.mem_of_getElem? (i := 126) rfl) rfl
theorem wl_1_153 : Cond.fieldLink RX8 108 "NarrowRings$Reader" "place" "I" ∈ WALL := tb1 (List.mem_of_getElem? (i := 153) rfl) rfl
theorem wl_2_124 : Cond.fieldLink RX8 111 "NarrowRings" "faultPlace" "I" ∈ WALL := tb2 (List.mem_of_getElem? (i := 124) rfl) rfl
theorem hd_X8_city : yX8_city.cls ≠ "java/lang/invoke/MethodHandle" ∧ yX8_city.cls ≠ "java/lang/invoke/VarHandle" ∧ (parseMethodDescriptor yX8_city.desc).map (fun d => d.parameters.length) = some 1 := by decide +kernel
set_option maxRecDepth 100000 in
set_option maxHeartbeats 4000000 in
theorem M_X8_city (l : Launch) : MtS l yX8_city (Cond.code yX8_city cX8_city 3 (some .int) :: WALL) { frames := 10, cells := 0, slots := 0, locals := 218 } [18, 0] (some 0) T_X8_city := by
  refine MtS.mk (B := E_X8_city) (by decide +kernel) (by decide) (fun _ _ _ hh => hh) ?_
  intro X Q e1 e2 e3 hC hN hT
  subst e1
  have hC : CF X cX8_city RX8 WALL := hC
  have S_12 : SdS X 12 [(0, 18), (1, 0)] [] (B_X8_city_12 Q) := by
    unfold B_X8_city_12
    refine su_aload_n hC 18 dX8_city_12 rfl (by decide) (by decide) (?_ : SdS X 13 [(0, 18), (1, 0)] [18] _)
    refine su_iconst hC dX8_city_13 ⟨by decide, by decide⟩ (?_ : SdS X 14 [(0, 18), (1, 0)] [0, 18] _)
    refine su_inv0 (τ := []) (τr := [0]) (ci := 8) (q := (RX8, TX8, 18)) hC WG (M_X8_refuse _) rfl rfl rfl rfl  rfl rfl wl_2_175 wl_2_177 wp_1 wl_1_1 wl_2_178 hd_X8_refuse (by rw [e3]; decide) (by decide) dX8_city_14 (?_ : SdS X 17 [(0, 18), (1, 0)] [0] _)
    exact su_ireturn hC hT dX8_city_17
  refine (?_ : SdS X 0 [(0, 18), (1, 0)] [] (E_X8_city Q))
  unfold E_X8_city
  refine su_iload_n hC dX8_city_0 rfl (by decide) (?_ : SdS X 1 [(0, 18), (1, 0)] [0] _)
  refine su_if_lt (tgt := 12) hC dX8_city_1 rfl (?_ : SdS X 12 [(0, 18), (1, 0)] [] _) (?_ : SdS X 4 [(0, 18), (1, 0)] [] _)
  · exact SdS.weak (by decide) (S_12)
  · refine su_iload_n hC dX8_city_4 rfl (by decide) (?_ : SdS X 5 [(0, 18), (1, 0)] [0] _)
    refine su_aload_n hC 18 dX8_city_5 rfl (by decide) (by decide) (?_ : SdS X 6 [(0, 18), (1, 0)] [18, 0] _)
    refine su_getF hC (ci := 8) (j := 1) (C := RX8) (T := TX8) (N := 18) rfl rfl (by decide) in_X8 wl_2_109 rfl dX8_city_6 (?_ : SdS X 9 [(0, 18), (1, 0)] [0, 0] _)
    refine su_icmp_le (tgt := 18) hC dX8_city_9 rfl (?_ : SdS X 18 [(0, 18), (1, 0)] [] _) (?_ : SdS X 12 [(0, 18), (1, 0)] [] _)
    · refine su_aload_n hC 18 dX8_city_18 rfl (by decide) (by decide) (?_ : SdS X 19 [(0, 18), (1, 0)] [18] _)
      refine su_iconst hC dX8_city_19 ⟨by decide, by decide⟩ (?_ : SdS X 20 [(0, 18), (1, 0)] [0, 18] _)
      refine su_putF hC (ci := 8) (j := 1) (C := RX8) (T := TX8) (N := 18) tyX8 tyX8_ok nmX8 rfl rfl (by decide) in_X8 rfl rfl wl_2_109 rfl dX8_city_20 (?_ : SdS X 23 [(0, 18), (1, 0)] [] _)
      refine su_aload_n hC 18 dX8_city_23 rfl (by decide) (by decide) (?_ : SdS X 24 [(0, 18), (1, 0)] [18] _)
      refine su_aload_n hC 18 dX8_city_24 rfl (by decide) (by decide) (?_ : SdS X 25 [(0, 18), (1, 0)] [18, 18] _)
      refine su_getR hC (ci := 8) (j := 4) (C := RX8) (T := TX8) (N := 18) rfl rfl (by decide) in_X8 wl_2_112 rfl dX8_city_25 (?_ : SdS X 28 [(0, 18), (1, 0)] [14, 18] _)
      refine su_aload_n hC 18 dX8_city_28 rfl (by decide) (by decide) (?_ : SdS X 29 [(0, 18), (1, 0)] [18, 14, 18] _)
      refine su_getR hC (ci := 8) (j := 3) (C := RX8) (T := TX8) (N := 18) rfl rfl (by decide) in_X8 wl_2_111 rfl dX8_city_29 (?_ : SdS X 32 [(0, 18), (1, 0)] [11, 14, 18] _)
      refine su_iload_n hC dX8_city_32 rfl (by decide) (?_ : SdS X 33 [(0, 18), (1, 0)] [0, 11, 14, 18] _)
      refine su_inv0 (τ := [18]) (τr := [11, 0]) (ci := 4) (q := (RX4, TX4, 15)) hC WG (M_X4_read _) rfl rfl rfl rfl  rfl rfl wl_2_179 wl_2_180 wl_2_181 wl_1_4 wl_2_182 hd_X4_read (by rw [e3]; decide) (by decide) dX8_city_33 (?_ : SdS X 36 [(0, 18), (1, 0)] [0, 18] _)
      refine su_putF hC (ci := 8) (j := 15) (C := RX8) (T := TX8) (N := 18) tyX8 tyX8_ok nmX8 rfl rfl (by decide) in_X8 rfl rfl wl_2_123 rfl dX8_city_36 (?_ : SdS X 39 [(0, 18), (1, 0)] [] _)
      refine su_aload_n hC 18 dX8_city_39 rfl (by decide) (by decide) (?_ : SdS X 40 [(0, 18), (1, 0)] [18] _)
      refine su_getF hC (ci := 8) (j := 15) (C := RX8) (T := TX8) (N := 18) rfl rfl (by decide) in_X8 wl_2_123 rfl dX8_city_40 (?_ : SdS X 43 [(0, 18), (1, 0)] [0] _)
      refine su_if_eq (tgt := 63) hC dX8_city_43 rfl (?_ : SdS X 63 [(0, 18), (1, 0)] [] _) (?_ : SdS X 46 [(0, 18), (1, 0)] [] _)
      · refine su_aload_n hC 18 dX8_city_63 rfl (by decide) (by decide) (?_ : SdS X 64 [(0, 18), (1, 0)] [18] _)
        refine su_getR hC (ci := 8) (j := 2) (C := RX8) (T := TX8) (N := 18) rfl rfl (by decide) in_X8 wl_2_110 rfl dX8_city_64 (?_ : SdS X 67 [(0, 18), (1, 0)] [11] _)
        refine su_astore_n (Γ' := [(0, 18), (1, 0), (2, 11)]) hC dX8_city_67 rfl (by decide) (by rw [e2]; decide) (by decide) (?_ : SdS X 68 [(0, 18), (1, 0), (2, 11)] [] _)
        refine su_aload_n hC 18 dX8_city_68 rfl (by decide) (by decide) (?_ : SdS X 69 [(0, 18), (1, 0), (2, 11)] [18] _)
        refine su_aload_n hC 18 dX8_city_69 rfl (by decide) (by decide) (?_ : SdS X 70 [(0, 18), (1, 0), (2, 11)] [18, 18] _)
        refine su_getR hC (ci := 8) (j := 3) (C := RX8) (T := TX8) (N := 18) rfl rfl (by decide) in_X8 wl_2_111 rfl dX8_city_70 (?_ : SdS X 73 [(0, 18), (1, 0), (2, 11)] [11, 18] _)
        refine su_putR hC (ci := 8) (j := 2) (C := RX8) (T := TX8) (N := 18) tyX8 tyX8_ok nmX8 rfl rfl (by decide) in_X8 rfl rfl wl_2_110 rfl dX8_city_73 (?_ : SdS X 76 [(0, 18), (1, 0), (2, 11)] [] _)
        refine su_aload_n hC 18 dX8_city_76 rfl (by decide) (by decide) (?_ : SdS X 77 [(0, 18), (1, 0), (2, 11)] [18] _)
        refine su_aload_n hC 11 dX8_city_77 rfl (by decide) (by decide) (?_ : SdS X 78 [(0, 18), (1, 0), (2, 11)] [11, 18] _)
        refine su_putR hC (ci := 8) (j := 3) (C := RX8) (T := TX8) (N := 18) tyX8 tyX8_ok nmX8 rfl rfl (by decide) in_X8 rfl rfl wl_2_111 rfl dX8_city_78 (?_ : SdS X 81 [(0, 18), (1, 0), (2, 11)] [] _)
        refine su_aload_n hC 18 dX8_city_81 rfl (by decide) (by decide) (?_ : SdS X 82 [(0, 18), (1, 0), (2, 11)] [18] _)
        refine su_getR hC (ci := 8) (j := 12) (C := RX8) (T := TX8) (N := 18) rfl rfl (by decide) in_X8 wl_2_120 rfl dX8_city_82 (?_ : SdS X 85 [(0, 18), (1, 0), (2, 11)] [10] _)
        refine su_iconst hC dX8_city_85 ⟨by decide, by decide⟩ (?_ : SdS X 86 [(0, 18), (1, 0), (2, 11)] [0, 10] _)
        refine su_putF hC (ci := 0) (j := 0) (C := RX0) (T := TX0) (N := 2) tyX0 tyX0_ok nmX0 rfl rfl (by decide) in_X0 rfl rfl wl_2_83 rfl dX8_city_86 (?_ : SdS X 89 [(0, 18), (1, 0), (2, 11)] [] _)
        refine su_aload_n hC 18 dX8_city_89 rfl (by decide) (by decide) (?_ : SdS X 90 [(0, 18), (1, 0), (2, 11)] [18] _)
        refine su_inv0v (τ := []) (τr := []) (ci := 8) (q := (RX8, TX8, 18)) hC WG (M_X8_planAnew _) rfl rfl rfl rfl  rfl rfl wl_3_123 wl_3_125 wp_25 wl_1_1 wl_3_126 hd_X8_planAnew (by rw [e3]; decide) (by decide) dX8_city_90 (?_ : SdS X 93 [(0, 18), (1, 0), (2, 11)] [] _)
        refine su_aload_n hC 18 dX8_city_93 rfl (by decide) (by decide) (?_ : SdS X 94 [(0, 18), (1, 0), (2, 11)] [18] _)
        refine su_aload_n hC 18 dX8_city_94 rfl (by decide) (by decide) (?_ : SdS X 95 [(0, 18), (1, 0), (2, 11)] [18, 18] _)
        refine su_getR hC (ci := 8) (j := 2) (C := RX8) (T := TX8) (N := 18) rfl rfl (by decide) in_X8 wl_2_110 rfl dX8_city_95 (?_ : SdS X 98 [(0, 18), (1, 0), (2, 11)] [11, 18] _)
        refine su_getF hC (ci := 1) (j := 0) (C := RX1) (T := TX1) (N := 12) rfl rfl (by decide) in_X1 wl_1_79 rfl dX8_city_98 (?_ : SdS X 101 [(0, 18), (1, 0), (2, 11)] [0, 18] _)
        refine su_inv0 (τ := []) (τr := [0]) (ci := 8) (q := (RX8, TX8, 18)) hC WG (M_X8_grant _) rfl rfl rfl rfl  rfl rfl wl_3_225 wl_3_227 wp_34 wl_1_1 wl_3_228 hd_X8_grant (by rw [e3]; decide) (by decide) dX8_city_101 (?_ : SdS X 104 [(0, 18), (1, 0), (2, 11)] [0] _)
        exact su_ireturn hC hT dX8_city_104
      · refine su_aload_n hC 18 dX8_city_46 rfl (by decide) (by decide) (?_ : SdS X 47 [(0, 18), (1, 0)] [18] _)
        refine su_aload_n hC 18 dX8_city_47 rfl (by decide) (by decide) (?_ : SdS X 48 [(0, 18), (1, 0)] [18, 18] _)
        refine su_getR hC (ci := 8) (j := 4) (C := RX8) (T := TX8) (N := 18) rfl rfl (by decide) in_X8 wl_2_112 rfl dX8_city_48 (?_ : SdS X 51 [(0, 18), (1, 0)] [14, 18] _)
        refine su_getF hC (ci := 4) (j := 0) (C := RX4) (T := TX4) (N := 15) rfl rfl (by decide) in_X4 wl_1_153 rfl dX8_city_51 (?_ : SdS X 54 [(0, 18), (1, 0)] [0, 18] _)
        refine su_putF hC (ci := 8) (j := 16) (C := RX8) (T := TX8) (N := 18) tyX8 tyX8_ok nmX8 rfl rfl (by decide) in_X8 rfl rfl wl_2_124 rfl dX8_city_54 (?_ : SdS X 57 [(0, 18), (1, 0)] [] _)
        refine su_aload_n hC 18 dX8_city_57 rfl (by decide) (by decide) (?_ : SdS X 58 [(0, 18), (1, 0)] [18] _)
        refine su_iconst hC dX8_city_58 ⟨by decide, by decide⟩ (?_ : SdS X 59 [(0, 18), (1, 0)] [0, 18] _)
        refine su_inv0 (τ := []) (τr := [0]) (ci := 8) (q := (RX8, TX8, 18)) hC WG (M_X8_refuse _) rfl rfl rfl rfl  rfl rfl wl_2_175 wl_2_177 wp_1 wl_1_1 wl_2_178 hd_X8_refuse (by rw [e3]; decide) (by decide) dX8_city_59 (?_ : SdS X 62 [(0, 18), (1, 0)] [0] _)
        exact su_ireturn hC hT dX8_city_62
    · exact SdS.weak (by decide) (S_12)
theorem wl_5_56 : Cond.methodLink RX8 282 yX0_keep ∈ WALL := tb5 (List.mem_of_getElem? (i := 56) rfl) rfl
theorem wl_5_57 : Cond.instanceMethod yX0_keep ∈ WALL := tb5 (List.mem_of_getElem? (i := 57) rfl) rfl
theorem wl_5_58 : Cond.selects RX0 yX0_keep yX0_keep ∈ WALL := tb5 (List.mem_of_getElem? (i := 58) rfl) rfl
theorem wl_5_59 : Cond.code yX0_keep cX0_keep 3 none ∈ WALL := tb5 (List.mem_of_getElem? (i := 59) rfl) rfl
theorem hd_X8_close : yX8_close.cls ≠ "java/lang/invoke/MethodHandle" ∧ yX8_close.cls ≠ "java/lang/invoke/VarHandle" ∧ (parseMethodDescriptor yX8_close.desc).map (fun d => d.parameters.length) = some 1 := by decide +kernel
set_option maxRecDepth 100000 in
set_option maxHeartbeats 4000000 in
theorem M_X8_close (l : Launch) : MtS l yX8_close (Cond.code yX8_close cX8_close 2 (some .boolean) :: WALL) { frames := 6, cells := 0, slots := 0, locals := 145 } [18, 0] (some 0) T_X8_close := by
  refine MtS.mk (B := E_X8_close) (by decide +kernel) (by decide) (fun _ _ _ hh => hh) ?_
  intro X Q e1 e2 e3 hC hN hT
  subst e1
  have hC : CF X cX8_close RX8 WALL := hC
  refine (?_ : SdS X 0 [(0, 18), (1, 0)] [] (E_X8_close Q))
  unfold E_X8_close
  refine su_aload_n hC 18 dX8_close_0 rfl (by decide) (by decide) (?_ : SdS X 1 [(0, 18), (1, 0)] [18] _)
  refine su_iload_n hC dX8_close_1 rfl (by decide) (?_ : SdS X 2 [(0, 18), (1, 0)] [0, 18] _)
  refine su_inv0 (τ := []) (τr := [0]) (ci := 8) (q := (RX8, TX8, 18)) hC WG (M_X8_isGate _) rfl rfl rfl rfl  rfl rfl wl_4_2 wl_4_4 wp_35 wl_1_1 wl_4_5 hd_X8_isGate (by rw [e3]; decide) (by decide) dX8_close_2 (?_ : SdS X 5 [(0, 18), (1, 0)] [0] _)
  refine su_if_ne (tgt := 14) hC dX8_close_5 rfl (?_ : SdS X 14 [(0, 18), (1, 0)] [] _) (?_ : SdS X 8 [(0, 18), (1, 0)] [] _)
  · refine su_aload_n hC 18 dX8_close_14 rfl (by decide) (by decide) (?_ : SdS X 15 [(0, 18), (1, 0)] [18] _)
    refine su_getR hC (ci := 8) (j := 2) (C := RX8) (T := TX8) (N := 18) rfl rfl (by decide) in_X8 wl_2_110 rfl dX8_close_15 (?_ : SdS X 18 [(0, 18), (1, 0)] [11] _)
    refine su_getR hC (ci := 1) (j := 6) (C := RX1) (T := TX1) (N := 12) rfl rfl (by decide) in_X1 wl_1_104 rfl dX8_close_18 (?_ : SdS X 21 [(0, 18), (1, 0)] [200] _)
    refine su_iload_n hC dX8_close_21 rfl (by decide) (?_ : SdS X 22 [(0, 18), (1, 0)] [0, 200] _)
    refine su_aaload (e := 100) hC (List.mem_of_getElem? (i := 7) rfl) rfl rfl rfl dX8_close_22 (?_ : SdS X 23 [(0, 18), (1, 0)] [100] _)
    refine su_bipush hC dX8_close_23 (by decide) (?_ : SdS X 25 [(0, 18), (1, 0)] [0, 100] _)
    refine su_iaload hC dX8_close_25 (?_ : SdS X 26 [(0, 18), (1, 0)] [0] _)
    refine su_if_eq (tgt := 35) hC dX8_close_26 rfl (?_ : SdS X 35 [(0, 18), (1, 0)] [] _) (?_ : SdS X 29 [(0, 18), (1, 0)] [] _)
    · refine su_aload_n hC 18 dX8_close_35 rfl (by decide) (by decide) (?_ : SdS X 36 [(0, 18), (1, 0)] [18] _)
      refine su_getR hC (ci := 8) (j := 12) (C := RX8) (T := TX8) (N := 18) rfl rfl (by decide) in_X8 wl_2_120 rfl dX8_close_36 (?_ : SdS X 39 [(0, 18), (1, 0)] [10] _)
      refine su_aload_n hC 18 dX8_close_39 rfl (by decide) (by decide) (?_ : SdS X 40 [(0, 18), (1, 0)] [18, 10] _)
      refine su_getR hC (ci := 8) (j := 2) (C := RX8) (T := TX8) (N := 18) rfl rfl (by decide) in_X8 wl_2_110 rfl dX8_close_40 (?_ : SdS X 43 [(0, 18), (1, 0)] [11, 10] _)
      refine su_iload_n hC dX8_close_43 rfl (by decide) (?_ : SdS X 44 [(0, 18), (1, 0)] [0, 11, 10] _)
      refine su_inv0v (τ := []) (τr := [11, 0]) (ci := 0) (q := (RX0, TX0, 2)) hC WG (M_X0_keep _) rfl rfl rfl rfl  rfl rfl wl_5_56 wl_5_57 wl_5_58 wl_1_8 wl_5_59 hd_X0_keep (by rw [e3]; decide) (by decide) dX8_close_44 (?_ : SdS X 47 [(0, 18), (1, 0)] [] _)
      refine su_aload_n hC 18 dX8_close_47 rfl (by decide) (by decide) (?_ : SdS X 48 [(0, 18), (1, 0)] [18] _)
      refine su_getR hC (ci := 8) (j := 2) (C := RX8) (T := TX8) (N := 18) rfl rfl (by decide) in_X8 wl_2_110 rfl dX8_close_48 (?_ : SdS X 51 [(0, 18), (1, 0)] [11] _)
      refine su_getR hC (ci := 1) (j := 6) (C := RX1) (T := TX1) (N := 12) rfl rfl (by decide) in_X1 wl_1_104 rfl dX8_close_51 (?_ : SdS X 54 [(0, 18), (1, 0)] [200] _)
      refine su_iload_n hC dX8_close_54 rfl (by decide) (?_ : SdS X 55 [(0, 18), (1, 0)] [0, 200] _)
      refine su_aaload (e := 100) hC (List.mem_of_getElem? (i := 7) rfl) rfl rfl rfl dX8_close_55 (?_ : SdS X 56 [(0, 18), (1, 0)] [100] _)
      refine su_bipush hC dX8_close_56 (by decide) (?_ : SdS X 58 [(0, 18), (1, 0)] [0, 100] _)
      refine su_iconst hC dX8_close_58 ⟨by decide, by decide⟩ (?_ : SdS X 59 [(0, 18), (1, 0)] [0, 0, 100] _)
      refine su_iastore hC dX8_close_59 (?_ : SdS X 60 [(0, 18), (1, 0)] [] _)
      refine su_aload_n hC 18 dX8_close_60 rfl (by decide) (by decide) (?_ : SdS X 61 [(0, 18), (1, 0)] [18] _)
      refine su_inv0v (τ := []) (τr := []) (ci := 8) (q := (RX8, TX8, 18)) hC WG (M_X8_planAnew _) rfl rfl rfl rfl  rfl rfl wl_3_123 wl_3_125 wp_25 wl_1_1 wl_3_126 hd_X8_planAnew (by rw [e3]; decide) (by decide) dX8_close_61 (?_ : SdS X 64 [(0, 18), (1, 0)] [] _)
      refine su_aload_n hC 18 dX8_close_64 rfl (by decide) (by decide) (?_ : SdS X 65 [(0, 18), (1, 0)] [18] _)
      refine su_inv0 (τ := []) (τr := []) (ci := 8) (q := (RX8, TX8, 18)) hC WG (M_X8_allow _) rfl rfl rfl rfl  rfl rfl wl_4_171 wl_4_173 wp_57 wl_1_1 wl_4_174 hd_X8_allow (by rw [e3]; decide) (by decide) dX8_close_65 (?_ : SdS X 68 [(0, 18), (1, 0)] [0] _)
      exact su_zreturn hC hT dX8_close_68
    · refine su_aload_n hC 18 dX8_close_29 rfl (by decide) (by decide) (?_ : SdS X 30 [(0, 18), (1, 0)] [18] _)
      refine su_iconst hC dX8_close_30 ⟨by decide, by decide⟩ (?_ : SdS X 31 [(0, 18), (1, 0)] [0, 18] _)
      refine su_inv0 (τ := []) (τr := [0]) (ci := 8) (q := (RX8, TX8, 18)) hC WG (M_X8_deny _) rfl rfl rfl rfl  rfl rfl wl_4_167 wl_4_169 wp_56 wl_1_1 wl_4_170 hd_X8_deny (by rw [e3]; decide) (by decide) dX8_close_31 (?_ : SdS X 34 [(0, 18), (1, 0)] [0] _)
      exact su_zreturn hC hT dX8_close_34
  · refine su_aload_n hC 18 dX8_close_8 rfl (by decide) (by decide) (?_ : SdS X 9 [(0, 18), (1, 0)] [18] _)
    refine su_iconst hC dX8_close_9 ⟨by decide, by decide⟩ (?_ : SdS X 10 [(0, 18), (1, 0)] [0, 18] _)
    refine su_inv0 (τ := []) (τr := [0]) (ci := 8) (q := (RX8, TX8, 18)) hC WG (M_X8_deny _) rfl rfl rfl rfl  rfl rfl wl_4_167 wl_4_169 wp_56 wl_1_1 wl_4_170 hd_X8_deny (by rw [e3]; decide) (by decide) dX8_close_10 (?_ : SdS X 13 [(0, 18), (1, 0)] [0] _)
    exact su_zreturn hC hT dX8_close_13
theorem wl_4_41 : Cond.methodLink RX8 173 yX1_depthOf ∈ WALL := tb4 (List.mem_of_getElem? (i := 41) rfl) rfl
theorem wl_4_42 : Cond.instanceMethod yX1_depthOf ∈ WALL := tb4 (List.mem_of_getElem? (i := 42) rfl) rfl
theorem wl_4_43 : Cond.selects RX1 yX1_depthOf yX1_depthOf ∈ WALL := tb4 (List.mem_of_getElem? (i := 43) rfl) rfl
theorem wl_4_44 : Cond.code yX1_depthOf cX1_depthOf 4 (some .int) ∈ WALL := tb4 (List.mem_of_getElem? (i := 44) rfl) rfl
theorem hd_X8_deepest : yX8_deepest.cls ≠ "java/lang/invoke/MethodHandle" ∧ yX8_deepest.cls ≠ "java/lang/invoke/VarHandle" ∧ (parseMethodDescriptor yX8_deepest.desc).map (fun d => d.parameters.length) = some 1 := by decide +kernel
set_option maxRecDepth 100000 in
set_option maxHeartbeats 4000000 in
theorem M_X8_deepest (l : Launch) : MtS l yX8_deepest (Cond.code yX8_deepest cX8_deepest 2 (some .int) :: WALL) { frames := 5, cells := 0, slots := 0, locals := 120 } [18, 0] (some 0) T_X8_deepest := by
  refine MtS.mk (B := E_X8_deepest) (by decide +kernel) (by decide) (fun _ _ _ hh => hh) ?_
  intro X Q e1 e2 e3 hC hN hT
  subst e1
  have hC : CF X cX8_deepest RX8 WALL := hC
  refine (?_ : SdS X 0 [(0, 18), (1, 0)] [] (E_X8_deepest Q))
  unfold E_X8_deepest
  refine su_aload_n hC 18 dX8_deepest_0 rfl (by decide) (by decide) (?_ : SdS X 1 [(0, 18), (1, 0)] [18] _)
  refine su_iload_n hC dX8_deepest_1 rfl (by decide) (?_ : SdS X 2 [(0, 18), (1, 0)] [0, 18] _)
  refine su_inv0 (τ := []) (τr := [0]) (ci := 8) (q := (RX8, TX8, 18)) hC WG (M_X8_isGood _) rfl rfl rfl rfl  rfl rfl wl_4_17 wl_4_19 wp_37 wl_1_1 wl_4_20 hd_X8_isGood (by rw [e3]; decide) (by decide) dX8_deepest_2 (?_ : SdS X 5 [(0, 18), (1, 0)] [0] _)
  refine su_if_ne (tgt := 14) hC dX8_deepest_5 rfl (?_ : SdS X 14 [(0, 18), (1, 0)] [] _) (?_ : SdS X 8 [(0, 18), (1, 0)] [] _)
  · refine su_aload_n hC 18 dX8_deepest_14 rfl (by decide) (by decide) (?_ : SdS X 15 [(0, 18), (1, 0)] [18] _)
    refine su_aload_n hC 18 dX8_deepest_15 rfl (by decide) (by decide) (?_ : SdS X 16 [(0, 18), (1, 0)] [18, 18] _)
    refine su_getR hC (ci := 8) (j := 2) (C := RX8) (T := TX8) (N := 18) rfl rfl (by decide) in_X8 wl_2_110 rfl dX8_deepest_16 (?_ : SdS X 19 [(0, 18), (1, 0)] [11, 18] _)
    refine su_aload_n hC 18 dX8_deepest_19 rfl (by decide) (by decide) (?_ : SdS X 20 [(0, 18), (1, 0)] [18, 11, 18] _)
    refine su_getR hC (ci := 8) (j := 2) (C := RX8) (T := TX8) (N := 18) rfl rfl (by decide) in_X8 wl_2_110 rfl dX8_deepest_20 (?_ : SdS X 23 [(0, 18), (1, 0)] [11, 11, 18] _)
    refine su_iload_n hC dX8_deepest_23 rfl (by decide) (?_ : SdS X 24 [(0, 18), (1, 0)] [0, 11, 11, 18] _)
    refine su_iconst hC dX8_deepest_24 ⟨by decide, by decide⟩ (?_ : SdS X 25 [(0, 18), (1, 0)] [0, 0, 11, 11, 18] _)
    refine su_inv0 (τ := [11, 18]) (τr := [0, 0]) (ci := 1) (q := (RX1, TX1, 12)) hC WG (M_X1_thing _) rfl rfl rfl rfl  rfl rfl wl_4_35 wl_3_132 wl_3_133 wl_1_2 wl_3_134 hd_X1_thing (by rw [e3]; decide) (by decide) dX8_deepest_25 (?_ : SdS X 28 [(0, 18), (1, 0)] [16, 11, 18] _)
    refine su_iconst hC dX8_deepest_28 ⟨by decide, by decide⟩ (?_ : SdS X 29 [(0, 18), (1, 0)] [0, 16, 11, 18] _)
    refine su_inv0 (τ := [18]) (τr := [16, 0]) (ci := 1) (q := (RX1, TX1, 12)) hC WG (M_X1_depthOf _) rfl rfl rfl rfl  rfl rfl wl_4_41 wl_4_42 wl_4_43 wl_1_2 wl_4_44 hd_X1_depthOf (by rw [e3]; decide) (by decide) dX8_deepest_29 (?_ : SdS X 32 [(0, 18), (1, 0)] [0, 18] _)
    refine su_inv0 (τ := []) (τr := [0]) (ci := 8) (q := (RX8, TX8, 18)) hC WG (M_X8_grant _) rfl rfl rfl rfl  rfl rfl wl_3_225 wl_3_227 wp_34 wl_1_1 wl_3_228 hd_X8_grant (by rw [e3]; decide) (by decide) dX8_deepest_32 (?_ : SdS X 35 [(0, 18), (1, 0)] [0] _)
    exact su_ireturn hC hT dX8_deepest_35
  · refine su_aload_n hC 18 dX8_deepest_8 rfl (by decide) (by decide) (?_ : SdS X 9 [(0, 18), (1, 0)] [18] _)
    refine su_iconst hC dX8_deepest_9 ⟨by decide, by decide⟩ (?_ : SdS X 10 [(0, 18), (1, 0)] [0, 18] _)
    refine su_inv0 (τ := []) (τr := [0]) (ci := 8) (q := (RX8, TX8, 18)) hC WG (M_X8_refuse _) rfl rfl rfl rfl  rfl rfl wl_2_175 wl_2_177 wp_1 wl_1_1 wl_2_178 hd_X8_refuse (by rw [e3]; decide) (by decide) dX8_deepest_10 (?_ : SdS X 13 [(0, 18), (1, 0)] [0] _)
    exact su_ireturn hC hT dX8_deepest_13
theorem hd_X8_deepestCut : yX8_deepestCut.cls ≠ "java/lang/invoke/MethodHandle" ∧ yX8_deepestCut.cls ≠ "java/lang/invoke/VarHandle" ∧ (parseMethodDescriptor yX8_deepestCut.desc).map (fun d => d.parameters.length) = some 1 := by decide +kernel
set_option maxRecDepth 100000 in
set_option maxHeartbeats 4000000 in
theorem M_X8_deepestCut (l : Launch) : MtS l yX8_deepestCut (Cond.code yX8_deepestCut cX8_deepestCut 2 (some .int) :: WALL) { frames := 5, cells := 0, slots := 0, locals := 120 } [18, 0] (some 0) T_X8_deepestCut := by
  refine MtS.mk (B := E_X8_deepestCut) (by decide +kernel) (by decide) (fun _ _ _ hh => hh) ?_
  intro X Q e1 e2 e3 hC hN hT
  subst e1
  have hC : CF X cX8_deepestCut RX8 WALL := hC
  refine (?_ : SdS X 0 [(0, 18), (1, 0)] [] (E_X8_deepestCut Q))
  unfold E_X8_deepestCut
  refine su_aload_n hC 18 dX8_deepestCut_0 rfl (by decide) (by decide) (?_ : SdS X 1 [(0, 18), (1, 0)] [18] _)
  refine su_iload_n hC dX8_deepestCut_1 rfl (by decide) (?_ : SdS X 2 [(0, 18), (1, 0)] [0, 18] _)
  refine su_inv0 (τ := []) (τr := [0]) (ci := 8) (q := (RX8, TX8, 18)) hC WG (M_X8_isGood _) rfl rfl rfl rfl  rfl rfl wl_4_17 wl_4_19 wp_37 wl_1_1 wl_4_20 hd_X8_isGood (by rw [e3]; decide) (by decide) dX8_deepestCut_2 (?_ : SdS X 5 [(0, 18), (1, 0)] [0] _)
  refine su_if_ne (tgt := 14) hC dX8_deepestCut_5 rfl (?_ : SdS X 14 [(0, 18), (1, 0)] [] _) (?_ : SdS X 8 [(0, 18), (1, 0)] [] _)
  · refine su_aload_n hC 18 dX8_deepestCut_14 rfl (by decide) (by decide) (?_ : SdS X 15 [(0, 18), (1, 0)] [18] _)
    refine su_getR hC (ci := 8) (j := 2) (C := RX8) (T := TX8) (N := 18) rfl rfl (by decide) in_X8 wl_2_110 rfl dX8_deepestCut_15 (?_ : SdS X 18 [(0, 18), (1, 0)] [11] _)
    refine su_iload_n hC dX8_deepestCut_18 rfl (by decide) (?_ : SdS X 19 [(0, 18), (1, 0)] [0, 11] _)
    refine su_inv0 (τ := []) (τr := [0]) (ci := 1) (q := (RX1, TX1, 12)) hC WG (M_X1_canCut _) rfl rfl rfl rfl  rfl rfl wl_4_31 wl_4_32 wl_4_33 wl_1_2 wl_4_34 hd_X1_canCut (by rw [e3]; decide) (by decide) dX8_deepestCut_19 (?_ : SdS X 22 [(0, 18), (1, 0)] [0] _)
    refine su_if_ne (tgt := 31) hC dX8_deepestCut_22 rfl (?_ : SdS X 31 [(0, 18), (1, 0)] [] _) (?_ : SdS X 25 [(0, 18), (1, 0)] [] _)
    · refine su_aload_n hC 18 dX8_deepestCut_31 rfl (by decide) (by decide) (?_ : SdS X 32 [(0, 18), (1, 0)] [18] _)
      refine su_aload_n hC 18 dX8_deepestCut_32 rfl (by decide) (by decide) (?_ : SdS X 33 [(0, 18), (1, 0)] [18, 18] _)
      refine su_getR hC (ci := 8) (j := 2) (C := RX8) (T := TX8) (N := 18) rfl rfl (by decide) in_X8 wl_2_110 rfl dX8_deepestCut_33 (?_ : SdS X 36 [(0, 18), (1, 0)] [11, 18] _)
      refine su_aload_n hC 18 dX8_deepestCut_36 rfl (by decide) (by decide) (?_ : SdS X 37 [(0, 18), (1, 0)] [18, 11, 18] _)
      refine su_getR hC (ci := 8) (j := 2) (C := RX8) (T := TX8) (N := 18) rfl rfl (by decide) in_X8 wl_2_110 rfl dX8_deepestCut_37 (?_ : SdS X 40 [(0, 18), (1, 0)] [11, 11, 18] _)
      refine su_iload_n hC dX8_deepestCut_40 rfl (by decide) (?_ : SdS X 41 [(0, 18), (1, 0)] [0, 11, 11, 18] _)
      refine su_iconst hC dX8_deepestCut_41 ⟨by decide, by decide⟩ (?_ : SdS X 42 [(0, 18), (1, 0)] [0, 0, 11, 11, 18] _)
      refine su_inv0 (τ := [11, 18]) (τr := [0, 0]) (ci := 1) (q := (RX1, TX1, 12)) hC WG (M_X1_thing _) rfl rfl rfl rfl  rfl rfl wl_4_35 wl_3_132 wl_3_133 wl_1_2 wl_3_134 hd_X1_thing (by rw [e3]; decide) (by decide) dX8_deepestCut_42 (?_ : SdS X 45 [(0, 18), (1, 0)] [16, 11, 18] _)
      refine su_iconst hC dX8_deepestCut_45 ⟨by decide, by decide⟩ (?_ : SdS X 46 [(0, 18), (1, 0)] [0, 16, 11, 18] _)
      refine su_inv0 (τ := [18]) (τr := [16, 0]) (ci := 1) (q := (RX1, TX1, 12)) hC WG (M_X1_depthOf _) rfl rfl rfl rfl  rfl rfl wl_4_41 wl_4_42 wl_4_43 wl_1_2 wl_4_44 hd_X1_depthOf (by rw [e3]; decide) (by decide) dX8_deepestCut_46 (?_ : SdS X 49 [(0, 18), (1, 0)] [0, 18] _)
      refine su_inv0 (τ := []) (τr := [0]) (ci := 8) (q := (RX8, TX8, 18)) hC WG (M_X8_grant _) rfl rfl rfl rfl  rfl rfl wl_3_225 wl_3_227 wp_34 wl_1_1 wl_3_228 hd_X8_grant (by rw [e3]; decide) (by decide) dX8_deepestCut_49 (?_ : SdS X 52 [(0, 18), (1, 0)] [0] _)
      exact su_ireturn hC hT dX8_deepestCut_52
    · refine su_aload_n hC 18 dX8_deepestCut_25 rfl (by decide) (by decide) (?_ : SdS X 26 [(0, 18), (1, 0)] [18] _)
      refine su_iconst hC dX8_deepestCut_26 ⟨by decide, by decide⟩ (?_ : SdS X 27 [(0, 18), (1, 0)] [0, 18] _)
      refine su_inv0 (τ := []) (τr := [0]) (ci := 8) (q := (RX8, TX8, 18)) hC WG (M_X8_refuse _) rfl rfl rfl rfl  rfl rfl wl_2_175 wl_2_177 wp_1 wl_1_1 wl_2_178 hd_X8_refuse (by rw [e3]; decide) (by decide) dX8_deepestCut_27 (?_ : SdS X 30 [(0, 18), (1, 0)] [0] _)
      exact su_ireturn hC hT dX8_deepestCut_30
  · refine su_aload_n hC 18 dX8_deepestCut_8 rfl (by decide) (by decide) (?_ : SdS X 9 [(0, 18), (1, 0)] [18] _)
    refine su_iconst hC dX8_deepestCut_9 ⟨by decide, by decide⟩ (?_ : SdS X 10 [(0, 18), (1, 0)] [0, 18] _)
    refine su_inv0 (τ := []) (τr := [0]) (ci := 8) (q := (RX8, TX8, 18)) hC WG (M_X8_refuse _) rfl rfl rfl rfl  rfl rfl wl_2_175 wl_2_177 wp_1 wl_1_1 wl_2_178 hd_X8_refuse (by rw [e3]; decide) (by decide) dX8_deepestCut_10 (?_ : SdS X 13 [(0, 18), (1, 0)] [0] _)
    exact su_ireturn hC hT dX8_deepestCut_13
theorem hd_X8_dig : yX8_dig.cls ≠ "java/lang/invoke/MethodHandle" ∧ yX8_dig.cls ≠ "java/lang/invoke/VarHandle" ∧ (parseMethodDescriptor yX8_dig.desc).map (fun d => d.parameters.length) = some 6 := by decide +kernel
set_option maxRecDepth 100000 in
set_option maxHeartbeats 4000000 in
theorem M_X8_dig (l : Launch) : MtS l yX8_dig (Cond.code yX8_dig cX8_dig 10 (some .int) :: WALL) { frames := 6, cells := 0, slots := 0, locals := 145 } [18, 0, 0, 0, 0, 0, 0] (some 0) T_X8_dig := by
  refine MtS.mk (B := E_X8_dig) (by decide +kernel) (by decide) (fun _ _ _ hh => hh) ?_
  intro X Q e1 e2 e3 hC hN hT
  subst e1
  have hC : CF X cX8_dig RX8 WALL := hC
  have S_19 : SdS X 19 [(0, 18), (1, 0), (2, 0), (3, 0), (4, 0), (5, 0), (6, 0)] [] (B_X8_dig_19 Q) := by
    unfold B_X8_dig_19
    refine su_aload_n hC 18 dX8_dig_19 rfl (by decide) (by decide) (?_ : SdS X 20 [(0, 18), (1, 0), (2, 0), (3, 0), (4, 0), (5, 0), (6, 0)] [18] _)
    refine su_iconst hC dX8_dig_20 ⟨by decide, by decide⟩ (?_ : SdS X 21 [(0, 18), (1, 0), (2, 0), (3, 0), (4, 0), (5, 0), (6, 0)] [0, 18] _)
    refine su_inv0 (τ := []) (τr := [0]) (ci := 8) (q := (RX8, TX8, 18)) hC WG (M_X8_refuse _) rfl rfl rfl rfl  rfl rfl wl_2_175 wl_2_177 wp_1 wl_1_1 wl_2_178 hd_X8_refuse (by rw [e3]; decide) (by decide) dX8_dig_21 (?_ : SdS X 24 [(0, 18), (1, 0), (2, 0), (3, 0), (4, 0), (5, 0), (6, 0)] [0] _)
    exact su_ireturn hC hT dX8_dig_24
  have S_70 : SdS X 70 [(0, 18), (1, 0), (2, 0), (3, 0), (4, 0), (5, 0), (6, 0)] [0] (B_X8_dig_70 Q) := by
    unfold B_X8_dig_70
    refine su_istore (Γ' := [(0, 18), (1, 0), (2, 0), (3, 0), (4, 0), (5, 0), (6, 0), (7, 0)]) hC dX8_dig_70 (by rw [e2]; decide) (by decide) (?_ : SdS X 72 [(0, 18), (1, 0), (2, 0), (3, 0), (4, 0), (5, 0), (6, 0), (7, 0)] [] _)
    refine su_iload hC dX8_dig_72 (by decide) (?_ : SdS X 74 [(0, 18), (1, 0), (2, 0), (3, 0), (4, 0), (5, 0), (6, 0), (7, 0)] [0] _)
    refine su_if_ne (tgt := 83) hC dX8_dig_74 rfl (?_ : SdS X 83 [(0, 18), (1, 0), (2, 0), (3, 0), (4, 0), (5, 0), (6, 0), (7, 0)] [] _) (?_ : SdS X 77 [(0, 18), (1, 0), (2, 0), (3, 0), (4, 0), (5, 0), (6, 0), (7, 0)] [] _)
    · refine su_aload_n hC 18 dX8_dig_83 rfl (by decide) (by decide) (?_ : SdS X 84 [(0, 18), (1, 0), (2, 0), (3, 0), (4, 0), (5, 0), (6, 0), (7, 0)] [18] _)
      refine su_getR hC (ci := 8) (j := 2) (C := RX8) (T := TX8) (N := 18) rfl rfl (by decide) in_X8 wl_2_110 rfl dX8_dig_84 (?_ : SdS X 87 [(0, 18), (1, 0), (2, 0), (3, 0), (4, 0), (5, 0), (6, 0), (7, 0)] [11] _)
      refine su_getF hC (ci := 1) (j := 1) (C := RX1) (T := TX1) (N := 12) rfl rfl (by decide) in_X1 wl_1_87 rfl dX8_dig_87 (?_ : SdS X 90 [(0, 18), (1, 0), (2, 0), (3, 0), (4, 0), (5, 0), (6, 0), (7, 0)] [0] _)
      refine su_bipush hC dX8_dig_90 (by decide) (?_ : SdS X 92 [(0, 18), (1, 0), (2, 0), (3, 0), (4, 0), (5, 0), (6, 0), (7, 0)] [0, 0] _)
      refine su_icmp_lt (tgt := 101) hC dX8_dig_92 rfl (?_ : SdS X 101 [(0, 18), (1, 0), (2, 0), (3, 0), (4, 0), (5, 0), (6, 0), (7, 0)] [] _) (?_ : SdS X 95 [(0, 18), (1, 0), (2, 0), (3, 0), (4, 0), (5, 0), (6, 0), (7, 0)] [] _)
      · refine su_aload_n hC 18 dX8_dig_101 rfl (by decide) (by decide) (?_ : SdS X 102 [(0, 18), (1, 0), (2, 0), (3, 0), (4, 0), (5, 0), (6, 0), (7, 0)] [18] _)
        refine su_getR hC (ci := 8) (j := 2) (C := RX8) (T := TX8) (N := 18) rfl rfl (by decide) in_X8 wl_2_110 rfl dX8_dig_102 (?_ : SdS X 105 [(0, 18), (1, 0), (2, 0), (3, 0), (4, 0), (5, 0), (6, 0), (7, 0)] [11] _)
        refine su_getF hC (ci := 1) (j := 1) (C := RX1) (T := TX1) (N := 12) rfl rfl (by decide) in_X1 wl_1_87 rfl dX8_dig_105 (?_ : SdS X 108 [(0, 18), (1, 0), (2, 0), (3, 0), (4, 0), (5, 0), (6, 0), (7, 0)] [0] _)
        refine su_istore (Γ' := [(0, 18), (1, 0), (2, 0), (3, 0), (4, 0), (5, 0), (6, 0), (7, 0), (8, 0)]) hC dX8_dig_108 (by rw [e2]; decide) (by decide) (?_ : SdS X 110 [(0, 18), (1, 0), (2, 0), (3, 0), (4, 0), (5, 0), (6, 0), (7, 0), (8, 0)] [] _)
        refine su_aload_n hC 18 dX8_dig_110 rfl (by decide) (by decide) (?_ : SdS X 111 [(0, 18), (1, 0), (2, 0), (3, 0), (4, 0), (5, 0), (6, 0), (7, 0), (8, 0)] [18] _)
        refine su_getR hC (ci := 8) (j := 12) (C := RX8) (T := TX8) (N := 18) rfl rfl (by decide) in_X8 wl_2_120 rfl dX8_dig_111 (?_ : SdS X 114 [(0, 18), (1, 0), (2, 0), (3, 0), (4, 0), (5, 0), (6, 0), (7, 0), (8, 0)] [10] _)
        refine su_aload_n hC 18 dX8_dig_114 rfl (by decide) (by decide) (?_ : SdS X 115 [(0, 18), (1, 0), (2, 0), (3, 0), (4, 0), (5, 0), (6, 0), (7, 0), (8, 0)] [18, 10] _)
        refine su_getR hC (ci := 8) (j := 2) (C := RX8) (T := TX8) (N := 18) rfl rfl (by decide) in_X8 wl_2_110 rfl dX8_dig_115 (?_ : SdS X 118 [(0, 18), (1, 0), (2, 0), (3, 0), (4, 0), (5, 0), (6, 0), (7, 0), (8, 0)] [11, 10] _)
        refine su_iload hC dX8_dig_118 (by decide) (?_ : SdS X 120 [(0, 18), (1, 0), (2, 0), (3, 0), (4, 0), (5, 0), (6, 0), (7, 0), (8, 0)] [0, 11, 10] _)
        refine su_inv0v (τ := []) (τr := [11, 0]) (ci := 0) (q := (RX0, TX0, 2)) hC WG (M_X0_keep _) rfl rfl rfl rfl  rfl rfl wl_5_56 wl_5_57 wl_5_58 wl_1_8 wl_5_59 hd_X0_keep (by rw [e3]; decide) (by decide) dX8_dig_120 (?_ : SdS X 123 [(0, 18), (1, 0), (2, 0), (3, 0), (4, 0), (5, 0), (6, 0), (7, 0), (8, 0)] [] _)
        refine su_aload_n hC 18 dX8_dig_123 rfl (by decide) (by decide) (?_ : SdS X 124 [(0, 18), (1, 0), (2, 0), (3, 0), (4, 0), (5, 0), (6, 0), (7, 0), (8, 0)] [18] _)
        refine su_getR hC (ci := 8) (j := 2) (C := RX8) (T := TX8) (N := 18) rfl rfl (by decide) in_X8 wl_2_110 rfl dX8_dig_124 (?_ : SdS X 127 [(0, 18), (1, 0), (2, 0), (3, 0), (4, 0), (5, 0), (6, 0), (7, 0), (8, 0)] [11] _)
        refine su_getR hC (ci := 1) (j := 6) (C := RX1) (T := TX1) (N := 12) rfl rfl (by decide) in_X1 wl_1_104 rfl dX8_dig_127 (?_ : SdS X 130 [(0, 18), (1, 0), (2, 0), (3, 0), (4, 0), (5, 0), (6, 0), (7, 0), (8, 0)] [200] _)
        refine su_iload hC dX8_dig_130 (by decide) (?_ : SdS X 132 [(0, 18), (1, 0), (2, 0), (3, 0), (4, 0), (5, 0), (6, 0), (7, 0), (8, 0)] [0, 200] _)
        refine su_aaload (e := 100) hC (List.mem_of_getElem? (i := 7) rfl) rfl rfl rfl dX8_dig_132 (?_ : SdS X 133 [(0, 18), (1, 0), (2, 0), (3, 0), (4, 0), (5, 0), (6, 0), (7, 0), (8, 0)] [100] _)
        refine su_astore (Γ' := [(0, 18), (1, 0), (2, 0), (3, 0), (4, 0), (5, 0), (6, 0), (7, 0), (8, 0), (9, 100)]) hC dX8_dig_133 (by decide) (by rw [e2]; decide) (by decide) (?_ : SdS X 135 [(0, 18), (1, 0), (2, 0), (3, 0), (4, 0), (5, 0), (6, 0), (7, 0), (8, 0), (9, 100)] [] _)
        refine su_aload hC 100 dX8_dig_135 (by decide) (by decide) (?_ : SdS X 137 [(0, 18), (1, 0), (2, 0), (3, 0), (4, 0), (5, 0), (6, 0), (7, 0), (8, 0), (9, 100)] [100] _)
        refine su_iconst hC dX8_dig_137 ⟨by decide, by decide⟩ (?_ : SdS X 138 [(0, 18), (1, 0), (2, 0), (3, 0), (4, 0), (5, 0), (6, 0), (7, 0), (8, 0), (9, 100)] [0, 100] _)
        refine su_iload_n hC dX8_dig_138 rfl (by decide) (?_ : SdS X 139 [(0, 18), (1, 0), (2, 0), (3, 0), (4, 0), (5, 0), (6, 0), (7, 0), (8, 0), (9, 100)] [0, 0, 100] _)
        refine su_iastore hC dX8_dig_139 (?_ : SdS X 140 [(0, 18), (1, 0), (2, 0), (3, 0), (4, 0), (5, 0), (6, 0), (7, 0), (8, 0), (9, 100)] [] _)
        refine su_aload hC 100 dX8_dig_140 (by decide) (by decide) (?_ : SdS X 142 [(0, 18), (1, 0), (2, 0), (3, 0), (4, 0), (5, 0), (6, 0), (7, 0), (8, 0), (9, 100)] [100] _)
        refine su_iconst hC dX8_dig_142 ⟨by decide, by decide⟩ (?_ : SdS X 143 [(0, 18), (1, 0), (2, 0), (3, 0), (4, 0), (5, 0), (6, 0), (7, 0), (8, 0), (9, 100)] [0, 100] _)
        refine su_iload_n hC dX8_dig_143 rfl (by decide) (?_ : SdS X 144 [(0, 18), (1, 0), (2, 0), (3, 0), (4, 0), (5, 0), (6, 0), (7, 0), (8, 0), (9, 100)] [0, 0, 100] _)
        refine su_iastore hC dX8_dig_144 (?_ : SdS X 145 [(0, 18), (1, 0), (2, 0), (3, 0), (4, 0), (5, 0), (6, 0), (7, 0), (8, 0), (9, 100)] [] _)
        refine su_aload hC 100 dX8_dig_145 (by decide) (by decide) (?_ : SdS X 147 [(0, 18), (1, 0), (2, 0), (3, 0), (4, 0), (5, 0), (6, 0), (7, 0), (8, 0), (9, 100)] [100] _)
        refine su_iconst hC dX8_dig_147 ⟨by decide, by decide⟩ (?_ : SdS X 148 [(0, 18), (1, 0), (2, 0), (3, 0), (4, 0), (5, 0), (6, 0), (7, 0), (8, 0), (9, 100)] [0, 100] _)
        refine su_iload_n hC dX8_dig_148 rfl (by decide) (?_ : SdS X 149 [(0, 18), (1, 0), (2, 0), (3, 0), (4, 0), (5, 0), (6, 0), (7, 0), (8, 0), (9, 100)] [0, 0, 100] _)
        refine su_iastore hC dX8_dig_149 (?_ : SdS X 150 [(0, 18), (1, 0), (2, 0), (3, 0), (4, 0), (5, 0), (6, 0), (7, 0), (8, 0), (9, 100)] [] _)
        refine su_aload hC 100 dX8_dig_150 (by decide) (by decide) (?_ : SdS X 152 [(0, 18), (1, 0), (2, 0), (3, 0), (4, 0), (5, 0), (6, 0), (7, 0), (8, 0), (9, 100)] [100] _)
        refine su_iconst hC dX8_dig_152 ⟨by decide, by decide⟩ (?_ : SdS X 153 [(0, 18), (1, 0), (2, 0), (3, 0), (4, 0), (5, 0), (6, 0), (7, 0), (8, 0), (9, 100)] [0, 100] _)
        refine su_iload hC dX8_dig_153 (by decide) (?_ : SdS X 155 [(0, 18), (1, 0), (2, 0), (3, 0), (4, 0), (5, 0), (6, 0), (7, 0), (8, 0), (9, 100)] [0, 0, 100] _)
        refine su_iastore hC dX8_dig_155 (?_ : SdS X 156 [(0, 18), (1, 0), (2, 0), (3, 0), (4, 0), (5, 0), (6, 0), (7, 0), (8, 0), (9, 100)] [] _)
        refine su_aload hC 100 dX8_dig_156 (by decide) (by decide) (?_ : SdS X 158 [(0, 18), (1, 0), (2, 0), (3, 0), (4, 0), (5, 0), (6, 0), (7, 0), (8, 0), (9, 100)] [100] _)
        refine su_iconst hC dX8_dig_158 ⟨by decide, by decide⟩ (?_ : SdS X 159 [(0, 18), (1, 0), (2, 0), (3, 0), (4, 0), (5, 0), (6, 0), (7, 0), (8, 0), (9, 100)] [0, 100] _)
        refine su_iload hC dX8_dig_159 (by decide) (?_ : SdS X 161 [(0, 18), (1, 0), (2, 0), (3, 0), (4, 0), (5, 0), (6, 0), (7, 0), (8, 0), (9, 100)] [0, 0, 100] _)
        refine su_iastore hC dX8_dig_161 (?_ : SdS X 162 [(0, 18), (1, 0), (2, 0), (3, 0), (4, 0), (5, 0), (6, 0), (7, 0), (8, 0), (9, 100)] [] _)
        refine su_aload hC 100 dX8_dig_162 (by decide) (by decide) (?_ : SdS X 164 [(0, 18), (1, 0), (2, 0), (3, 0), (4, 0), (5, 0), (6, 0), (7, 0), (8, 0), (9, 100)] [100] _)
        refine su_iconst hC dX8_dig_164 ⟨by decide, by decide⟩ (?_ : SdS X 165 [(0, 18), (1, 0), (2, 0), (3, 0), (4, 0), (5, 0), (6, 0), (7, 0), (8, 0), (9, 100)] [0, 100] _)
        refine su_iload hC dX8_dig_165 (by decide) (?_ : SdS X 167 [(0, 18), (1, 0), (2, 0), (3, 0), (4, 0), (5, 0), (6, 0), (7, 0), (8, 0), (9, 100)] [0, 0, 100] _)
        refine su_iastore hC dX8_dig_167 (?_ : SdS X 168 [(0, 18), (1, 0), (2, 0), (3, 0), (4, 0), (5, 0), (6, 0), (7, 0), (8, 0), (9, 100)] [] _)
        refine su_aload hC 100 dX8_dig_168 (by decide) (by decide) (?_ : SdS X 170 [(0, 18), (1, 0), (2, 0), (3, 0), (4, 0), (5, 0), (6, 0), (7, 0), (8, 0), (9, 100)] [100] _)
        refine su_bipush hC dX8_dig_170 (by decide) (?_ : SdS X 172 [(0, 18), (1, 0), (2, 0), (3, 0), (4, 0), (5, 0), (6, 0), (7, 0), (8, 0), (9, 100)] [0, 100] _)
        refine su_iconst hC dX8_dig_172 ⟨by decide, by decide⟩ (?_ : SdS X 173 [(0, 18), (1, 0), (2, 0), (3, 0), (4, 0), (5, 0), (6, 0), (7, 0), (8, 0), (9, 100)] [0, 0, 100] _)
        refine su_iastore hC dX8_dig_173 (?_ : SdS X 174 [(0, 18), (1, 0), (2, 0), (3, 0), (4, 0), (5, 0), (6, 0), (7, 0), (8, 0), (9, 100)] [] _)
        refine su_aload_n hC 18 dX8_dig_174 rfl (by decide) (by decide) (?_ : SdS X 175 [(0, 18), (1, 0), (2, 0), (3, 0), (4, 0), (5, 0), (6, 0), (7, 0), (8, 0), (9, 100)] [18] _)
        refine su_getR hC (ci := 8) (j := 2) (C := RX8) (T := TX8) (N := 18) rfl rfl (by decide) in_X8 wl_2_110 rfl dX8_dig_175 (?_ : SdS X 178 [(0, 18), (1, 0), (2, 0), (3, 0), (4, 0), (5, 0), (6, 0), (7, 0), (8, 0), (9, 100)] [11] _)
        refine su_iload hC dX8_dig_178 (by decide) (?_ : SdS X 180 [(0, 18), (1, 0), (2, 0), (3, 0), (4, 0), (5, 0), (6, 0), (7, 0), (8, 0), (9, 100)] [0, 11] _)
        refine su_iconst hC dX8_dig_180 ⟨by decide, by decide⟩ (?_ : SdS X 181 [(0, 18), (1, 0), (2, 0), (3, 0), (4, 0), (5, 0), (6, 0), (7, 0), (8, 0), (9, 100)] [0, 0, 11] _)
        refine su_iadd hC dX8_dig_181 (?_ : SdS X 182 [(0, 18), (1, 0), (2, 0), (3, 0), (4, 0), (5, 0), (6, 0), (7, 0), (8, 0), (9, 100)] [0, 11] _)
        refine su_putF hC (ci := 1) (j := 1) (C := RX1) (T := TX1) (N := 12) tyX1 tyX1_ok nmX1 rfl rfl (by decide) in_X1 rfl rfl wl_1_87 rfl dX8_dig_182 (?_ : SdS X 185 [(0, 18), (1, 0), (2, 0), (3, 0), (4, 0), (5, 0), (6, 0), (7, 0), (8, 0), (9, 100)] [] _)
        refine su_aload_n hC 18 dX8_dig_185 rfl (by decide) (by decide) (?_ : SdS X 186 [(0, 18), (1, 0), (2, 0), (3, 0), (4, 0), (5, 0), (6, 0), (7, 0), (8, 0), (9, 100)] [18] _)
        refine su_inv0v (τ := []) (τr := []) (ci := 8) (q := (RX8, TX8, 18)) hC WG (M_X8_planAnew _) rfl rfl rfl rfl  rfl rfl wl_3_123 wl_3_125 wp_25 wl_1_1 wl_3_126 hd_X8_planAnew (by rw [e3]; decide) (by decide) dX8_dig_186 (?_ : SdS X 189 [(0, 18), (1, 0), (2, 0), (3, 0), (4, 0), (5, 0), (6, 0), (7, 0), (8, 0), (9, 100)] [] _)
        refine su_aload_n hC 18 dX8_dig_189 rfl (by decide) (by decide) (?_ : SdS X 190 [(0, 18), (1, 0), (2, 0), (3, 0), (4, 0), (5, 0), (6, 0), (7, 0), (8, 0), (9, 100)] [18] _)
        refine su_iload hC dX8_dig_190 (by decide) (?_ : SdS X 192 [(0, 18), (1, 0), (2, 0), (3, 0), (4, 0), (5, 0), (6, 0), (7, 0), (8, 0), (9, 100)] [0, 18] _)
        refine su_inv0 (τ := []) (τr := [0]) (ci := 8) (q := (RX8, TX8, 18)) hC WG (M_X8_grant _) rfl rfl rfl rfl  rfl rfl wl_3_225 wl_3_227 wp_34 wl_1_1 wl_3_228 hd_X8_grant (by rw [e3]; decide) (by decide) dX8_dig_192 (?_ : SdS X 195 [(0, 18), (1, 0), (2, 0), (3, 0), (4, 0), (5, 0), (6, 0), (7, 0), (8, 0), (9, 100)] [0] _)
        exact su_ireturn hC hT dX8_dig_195
      · refine su_aload_n hC 18 dX8_dig_95 rfl (by decide) (by decide) (?_ : SdS X 96 [(0, 18), (1, 0), (2, 0), (3, 0), (4, 0), (5, 0), (6, 0), (7, 0)] [18] _)
        refine su_iconst hC dX8_dig_96 ⟨by decide, by decide⟩ (?_ : SdS X 97 [(0, 18), (1, 0), (2, 0), (3, 0), (4, 0), (5, 0), (6, 0), (7, 0)] [0, 18] _)
        refine su_inv0 (τ := []) (τr := [0]) (ci := 8) (q := (RX8, TX8, 18)) hC WG (M_X8_refuse _) rfl rfl rfl rfl  rfl rfl wl_2_175 wl_2_177 wp_1 wl_1_1 wl_2_178 hd_X8_refuse (by rw [e3]; decide) (by decide) dX8_dig_97 (?_ : SdS X 100 [(0, 18), (1, 0), (2, 0), (3, 0), (4, 0), (5, 0), (6, 0), (7, 0)] [0] _)
        exact su_ireturn hC hT dX8_dig_100
    · refine su_aload_n hC 18 dX8_dig_77 rfl (by decide) (by decide) (?_ : SdS X 78 [(0, 18), (1, 0), (2, 0), (3, 0), (4, 0), (5, 0), (6, 0), (7, 0)] [18] _)
      refine su_iconst hC dX8_dig_78 ⟨by decide, by decide⟩ (?_ : SdS X 79 [(0, 18), (1, 0), (2, 0), (3, 0), (4, 0), (5, 0), (6, 0), (7, 0)] [0, 18] _)
      refine su_inv0 (τ := []) (τr := [0]) (ci := 8) (q := (RX8, TX8, 18)) hC WG (M_X8_refuse _) rfl rfl rfl rfl  rfl rfl wl_2_175 wl_2_177 wp_1 wl_1_1 wl_2_178 hd_X8_refuse (by rw [e3]; decide) (by decide) dX8_dig_79 (?_ : SdS X 82 [(0, 18), (1, 0), (2, 0), (3, 0), (4, 0), (5, 0), (6, 0), (7, 0)] [0] _)
      exact su_ireturn hC hT dX8_dig_82
  have S_69 : SdS X 69 [(0, 18), (1, 0), (2, 0), (3, 0), (4, 0), (5, 0), (6, 0)] [] (B_X8_dig_69 Q) := by
    unfold B_X8_dig_69
    refine su_iconst hC dX8_dig_69 ⟨by decide, by decide⟩ (?_ : SdS X 70 [(0, 18), (1, 0), (2, 0), (3, 0), (4, 0), (5, 0), (6, 0)] [0] _)
    exact SdS.weak (by decide) (S_70)
  refine (?_ : SdS X 0 [(0, 18), (1, 0), (2, 0), (3, 0), (4, 0), (5, 0), (6, 0)] [] (E_X8_dig Q))
  unfold E_X8_dig
  refine su_aload_n hC 18 dX8_dig_0 rfl (by decide) (by decide) (?_ : SdS X 1 [(0, 18), (1, 0), (2, 0), (3, 0), (4, 0), (5, 0), (6, 0)] [18] _)
  refine su_iload_n hC dX8_dig_1 rfl (by decide) (?_ : SdS X 2 [(0, 18), (1, 0), (2, 0), (3, 0), (4, 0), (5, 0), (6, 0)] [0, 18] _)
  refine su_iload_n hC dX8_dig_2 rfl (by decide) (?_ : SdS X 3 [(0, 18), (1, 0), (2, 0), (3, 0), (4, 0), (5, 0), (6, 0)] [0, 0, 18] _)
  refine su_inv0 (τ := []) (τr := [0, 0]) (ci := 8) (q := (RX8, TX8, 18)) hC WG (M_X8_isSpot _) rfl rfl rfl rfl  rfl rfl wl_4_67 wl_4_69 wp_41 wl_1_1 wl_4_70 hd_X8_isSpot (by rw [e3]; decide) (by decide) dX8_dig_3 (?_ : SdS X 6 [(0, 18), (1, 0), (2, 0), (3, 0), (4, 0), (5, 0), (6, 0)] [0] _)
  refine su_if_eq (tgt := 19) hC dX8_dig_6 rfl (?_ : SdS X 19 [(0, 18), (1, 0), (2, 0), (3, 0), (4, 0), (5, 0), (6, 0)] [] _) (?_ : SdS X 9 [(0, 18), (1, 0), (2, 0), (3, 0), (4, 0), (5, 0), (6, 0)] [] _)
  · exact SdS.weak (by decide) (S_19)
  · refine su_aload_n hC 18 dX8_dig_9 rfl (by decide) (by decide) (?_ : SdS X 10 [(0, 18), (1, 0), (2, 0), (3, 0), (4, 0), (5, 0), (6, 0)] [18] _)
    refine su_iload_n hC dX8_dig_10 rfl (by decide) (?_ : SdS X 11 [(0, 18), (1, 0), (2, 0), (3, 0), (4, 0), (5, 0), (6, 0)] [0, 18] _)
    refine su_iconst hC dX8_dig_11 ⟨by decide, by decide⟩ (?_ : SdS X 12 [(0, 18), (1, 0), (2, 0), (3, 0), (4, 0), (5, 0), (6, 0)] [0, 0, 18] _)
    refine su_iadd hC dX8_dig_12 (?_ : SdS X 13 [(0, 18), (1, 0), (2, 0), (3, 0), (4, 0), (5, 0), (6, 0)] [0, 18] _)
    refine su_inv0 (τ := []) (τr := [0]) (ci := 8) (q := (RX8, TX8, 18)) hC WG (M_X8_isRing _) rfl rfl rfl rfl  rfl rfl wl_4_13 wl_4_15 wp_36 wl_1_1 wl_4_16 hd_X8_isRing (by rw [e3]; decide) (by decide) dX8_dig_13 (?_ : SdS X 16 [(0, 18), (1, 0), (2, 0), (3, 0), (4, 0), (5, 0), (6, 0)] [0] _)
    refine su_if_ne (tgt := 25) hC dX8_dig_16 rfl (?_ : SdS X 25 [(0, 18), (1, 0), (2, 0), (3, 0), (4, 0), (5, 0), (6, 0)] [] _) (?_ : SdS X 19 [(0, 18), (1, 0), (2, 0), (3, 0), (4, 0), (5, 0), (6, 0)] [] _)
    · refine su_iload_n hC dX8_dig_25 rfl (by decide) (?_ : SdS X 26 [(0, 18), (1, 0), (2, 0), (3, 0), (4, 0), (5, 0), (6, 0)] [0] _)
      refine su_invs (τ := []) (τs := [0]) hC false "" WG (M_X8_isSize _) rfl rfl rfl rfl wl_4_226 wl_4_227 wl_1_1 wl_4_228 hd_X8_isSize (by rw [e3]; decide) (by decide) dX8_dig_26 (?_ : SdS X 29 [(0, 18), (1, 0), (2, 0), (3, 0), (4, 0), (5, 0), (6, 0)] [0] _)
      refine su_if_eq (tgt := 69) hC dX8_dig_29 rfl (?_ : SdS X 69 [(0, 18), (1, 0), (2, 0), (3, 0), (4, 0), (5, 0), (6, 0)] [] _) (?_ : SdS X 32 [(0, 18), (1, 0), (2, 0), (3, 0), (4, 0), (5, 0), (6, 0)] [] _)
      · exact SdS.weak (by decide) (S_69)
      · refine su_iload hC dX8_dig_32 (by decide) (?_ : SdS X 34 [(0, 18), (1, 0), (2, 0), (3, 0), (4, 0), (5, 0), (6, 0)] [0] _)
        refine su_invs (τ := []) (τs := [0]) hC false "" WG (M_X8_isSize _) rfl rfl rfl rfl wl_4_226 wl_4_227 wl_1_1 wl_4_228 hd_X8_isSize (by rw [e3]; decide) (by decide) dX8_dig_34 (?_ : SdS X 37 [(0, 18), (1, 0), (2, 0), (3, 0), (4, 0), (5, 0), (6, 0)] [0] _)
        refine su_if_eq (tgt := 69) hC dX8_dig_37 rfl (?_ : SdS X 69 [(0, 18), (1, 0), (2, 0), (3, 0), (4, 0), (5, 0), (6, 0)] [] _) (?_ : SdS X 40 [(0, 18), (1, 0), (2, 0), (3, 0), (4, 0), (5, 0), (6, 0)] [] _)
        · exact SdS.weak (by decide) (S_69)
        · refine su_iload hC dX8_dig_40 (by decide) (?_ : SdS X 42 [(0, 18), (1, 0), (2, 0), (3, 0), (4, 0), (5, 0), (6, 0)] [0] _)
          refine su_iconst hC dX8_dig_42 ⟨by decide, by decide⟩ (?_ : SdS X 43 [(0, 18), (1, 0), (2, 0), (3, 0), (4, 0), (5, 0), (6, 0)] [0, 0] _)
          refine su_icmp_lt (tgt := 69) hC dX8_dig_43 rfl (?_ : SdS X 69 [(0, 18), (1, 0), (2, 0), (3, 0), (4, 0), (5, 0), (6, 0)] [] _) (?_ : SdS X 46 [(0, 18), (1, 0), (2, 0), (3, 0), (4, 0), (5, 0), (6, 0)] [] _)
          · exact SdS.weak (by decide) (S_69)
          · refine su_iload hC dX8_dig_46 (by decide) (?_ : SdS X 48 [(0, 18), (1, 0), (2, 0), (3, 0), (4, 0), (5, 0), (6, 0)] [0] _)
            refine su_bipush hC dX8_dig_48 (by decide) (?_ : SdS X 50 [(0, 18), (1, 0), (2, 0), (3, 0), (4, 0), (5, 0), (6, 0)] [0, 0] _)
            refine su_icmp_gt (tgt := 69) hC dX8_dig_50 rfl (?_ : SdS X 69 [(0, 18), (1, 0), (2, 0), (3, 0), (4, 0), (5, 0), (6, 0)] [] _) (?_ : SdS X 53 [(0, 18), (1, 0), (2, 0), (3, 0), (4, 0), (5, 0), (6, 0)] [] _)
            · exact SdS.weak (by decide) (S_69)
            · refine su_iload hC dX8_dig_53 (by decide) (?_ : SdS X 55 [(0, 18), (1, 0), (2, 0), (3, 0), (4, 0), (5, 0), (6, 0)] [0] _)
              refine su_if_lt (tgt := 69) hC dX8_dig_55 rfl (?_ : SdS X 69 [(0, 18), (1, 0), (2, 0), (3, 0), (4, 0), (5, 0), (6, 0)] [] _) (?_ : SdS X 58 [(0, 18), (1, 0), (2, 0), (3, 0), (4, 0), (5, 0), (6, 0)] [] _)
              · exact SdS.weak (by decide) (S_69)
              · refine su_iload hC dX8_dig_58 (by decide) (?_ : SdS X 60 [(0, 18), (1, 0), (2, 0), (3, 0), (4, 0), (5, 0), (6, 0)] [0] _)
                refine su_bipush hC dX8_dig_60 (by decide) (?_ : SdS X 62 [(0, 18), (1, 0), (2, 0), (3, 0), (4, 0), (5, 0), (6, 0)] [0, 0] _)
                refine su_icmp_gt (tgt := 69) hC dX8_dig_62 rfl (?_ : SdS X 69 [(0, 18), (1, 0), (2, 0), (3, 0), (4, 0), (5, 0), (6, 0)] [] _) (?_ : SdS X 65 [(0, 18), (1, 0), (2, 0), (3, 0), (4, 0), (5, 0), (6, 0)] [] _)
                · exact SdS.weak (by decide) (S_69)
                · refine su_iconst hC dX8_dig_65 ⟨by decide, by decide⟩ (?_ : SdS X 66 [(0, 18), (1, 0), (2, 0), (3, 0), (4, 0), (5, 0), (6, 0)] [0] _)
                  refine su_goto (tgt := 70) hC dX8_dig_66 rfl (?_ : SdS X 70 [(0, 18), (1, 0), (2, 0), (3, 0), (4, 0), (5, 0), (6, 0)] [0] _)
                  exact SdS.weak (by decide) (S_70)
    · exact SdS.weak (by decide) (S_19)

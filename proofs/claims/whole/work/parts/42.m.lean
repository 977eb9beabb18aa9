theorem wl_7_75 : Cond.methodLink RX10 207 yX10_readOrder ∈ WALL := tb7 (List.mem_of_getElem? (i := 75) rfl) rfl
theorem wl_7_77 : Cond.instanceMethod yX10_readOrder ∈ WALL := tb7 (List.mem_of_getElem? (i := 77) rfl) rfl
theorem wp_84 : Cond.selects RX10 yX10_readOrder yX10_readOrder ∈ WALL := tbS (List.mem_of_getElem? (i := 84) rfl)
theorem wl_7_78 : Cond.code yX10_readOrder cX10_readOrder 11 none ∈ WALL := tb7 (List.mem_of_getElem? (i := 78) rfl) rfl
theorem wl_7_65 : Cond.methodLink RX10 204 yX10_readGood ∈ WALL := tb7 (List.mem_of_getElem? (i := 65) rfl) rfl
theorem wl_7_67 : Cond.instanceMethod yX10_readGood ∈ WALL := tb7 (List.mem_of_getElem? (i := 67) rfl) rfl
theorem wp_82 : Cond.selects RX10 yX10_readGood yX10_readGood ∈ WALL := tbS (List.mem_of_getElem? (i := 82) rfl)
theorem wl_7_68 : Cond.code yX10_readGood cX10_readGood 11 none ∈ WALL := tb7 (List.mem_of_getElem? (i := 68) rfl) rfl
theorem wl_7_59 : Cond.methodLink RX10 201 yX10_readStore ∈ WALL := tb7 (List.mem_of_getElem? (i := 59) rfl) rfl
theorem wl_7_61 : Cond.instanceMethod yX10_readStore ∈ WALL := tb7 (List.mem_of_getElem? (i := 61) rfl) rfl
theorem wp_81 : Cond.selects RX10 yX10_readStore yX10_readStore ∈ WALL := tbS (List.mem_of_getElem? (i := 81) rfl)
theorem wl_7_62 : Cond.code yX10_readStore cX10_readStore 4 none ∈ WALL := tb7 (List.mem_of_getElem? (i := 62) rfl) rfl
theorem wl_7_54 : Cond.methodLink RX10 198 yX10_readCart ∈ WALL := tb7 (List.mem_of_getElem? (i := 54) rfl) rfl
theorem wl_7_56 : Cond.instanceMethod yX10_readCart ∈ WALL := tb7 (List.mem_of_getElem? (i := 56) rfl) rfl
theorem wp_80 : Cond.selects RX10 yX10_readCart yX10_readCart ∈ WALL := tbS (List.mem_of_getElem? (i := 80) rfl)
theorem wl_7_57 : Cond.code yX10_readCart cX10_readCart 5 none ∈ WALL := tb7 (List.mem_of_getElem? (i := 57) rfl) rfl
theorem wl_7_6 : Cond.methodLink RX10 195 yX10_readGate ∈ WALL := tb7 (List.mem_of_getElem? (i := 6) rfl) rfl
theorem wl_7_8 : Cond.instanceMethod yX10_readGate ∈ WALL := tb7 (List.mem_of_getElem? (i := 8) rfl) rfl
theorem wp_74 : Cond.selects RX10 yX10_readGate yX10_readGate ∈ WALL := tbS (List.mem_of_getElem? (i := 74) rfl)
theorem wl_7_9 : Cond.code yX10_readGate cX10_readGate 9 none ∈ WALL := tb7 (List.mem_of_getElem? (i := 9) rfl) rfl
theorem wl_6_222 : Cond.methodLink RX10 192 yX10_readRings ∈ WALL := tb6 (List.mem_of_getElem? (i := 222) rfl) rfl
theorem wl_6_224 : Cond.instanceMethod yX10_readRings ∈ WALL := tb6 (List.mem_of_getElem? (i := 224) rfl) rfl
theorem wp_69 : Cond.selects RX10 yX10_readRings yX10_readRings ∈ WALL := tbS (List.mem_of_getElem? (i := 69) rfl)
theorem wl_6_225 : Cond.code yX10_readRings cX10_readRings 4 none ∈ WALL := tb6 (List.mem_of_getElem? (i := 225) rfl) rfl
theorem hd_X10_readLine : yX10_readLine.cls ≠ "java/lang/invoke/MethodHandle" ∧ yX10_readLine.cls ≠ "java/lang/invoke/VarHandle" ∧ (parseMethodDescriptor yX10_readLine.desc).map (fun d => d.parameters.length) = some 0 := by decide +kernel
set_option maxRecDepth 100000 in
set_option maxHeartbeats 4000000 in
theorem M_X10_readLine (l : Launch) : MtS l yX10_readLine (Cond.code yX10_readLine cX10_readLine 1 none :: WALL) { frames := 9, cells := 0, slots := 0, locals := 203 } [20] none T_X10_readLine := by
  refine MtS.mk (B := E_X10_readLine) (by decide +kernel) (by decide) (fun _ _ _ hh => hh) ?_
  intro X Q e1 e2 e3 hC hN hT
  subst e1
  have hC : CF X cX10_readLine RX10 WALL := hC
  have S_101 : SdS X 101 [(0, 20)] [] (B_X10_readLine_101 Q) := by
    unfold B_X10_readLine_101
    exact su_return hC hT dX10_readLine_101
  refine (?_ : SdS X 0 [(0, 20)] [] (E_X10_readLine Q))
  unfold E_X10_readLine
  refine su_aload_n hC 20 dX10_readLine_0 rfl (by decide) (by decide) (?_ : SdS X 1 [(0, 20)] [20] _)
  refine su_ldcS hC (tx0 := "rings") (i := 0) rfl (by decide) (by decide) dX10_readLine_1 (?_ : SdS X 3 [(0, 20)] [5, 20] _)
  refine su_inv0 (τ := []) (τr := [5]) (ci := 10) (q := (RX10, TX10, 45)) hC WG (M_X10_isWord _) rfl rfl rfl rfl  rfl rfl wl_6_213 wl_6_215 wp_68 wl_1_10 wl_6_216 hd_X10_isWord (by rw [e3]; decide) (by decide) dX10_readLine_3 (?_ : SdS X 6 [(0, 20)] [0] _)
  refine su_if_eq (tgt := 16) hC dX10_readLine_6 rfl (?_ : SdS X 16 [(0, 20)] [] _) (?_ : SdS X 9 [(0, 20)] [] _)
  · refine su_aload_n hC 20 dX10_readLine_16 rfl (by decide) (by decide) (?_ : SdS X 17 [(0, 20)] [20] _)
    refine su_ldcS hC (tx0 := "gate") (i := 1) rfl (by decide) (by decide) dX10_readLine_17 (?_ : SdS X 19 [(0, 20)] [5, 20] _)
    refine su_inv0 (τ := []) (τr := [5]) (ci := 10) (q := (RX10, TX10, 45)) hC WG (M_X10_isWord _) rfl rfl rfl rfl  rfl rfl wl_6_213 wl_6_215 wp_68 wl_1_10 wl_6_216 hd_X10_isWord (by rw [e3]; decide) (by decide) dX10_readLine_19 (?_ : SdS X 22 [(0, 20)] [0] _)
    refine su_if_eq (tgt := 32) hC dX10_readLine_22 rfl (?_ : SdS X 32 [(0, 20)] [] _) (?_ : SdS X 25 [(0, 20)] [] _)
    · refine su_aload_n hC 20 dX10_readLine_32 rfl (by decide) (by decide) (?_ : SdS X 33 [(0, 20)] [20] _)
      refine su_ldcS hC (tx0 := "cart") (i := 2) rfl (by decide) (by decide) dX10_readLine_33 (?_ : SdS X 35 [(0, 20)] [5, 20] _)
      refine su_inv0 (τ := []) (τr := [5]) (ci := 10) (q := (RX10, TX10, 45)) hC WG (M_X10_isWord _) rfl rfl rfl rfl  rfl rfl wl_6_213 wl_6_215 wp_68 wl_1_10 wl_6_216 hd_X10_isWord (by rw [e3]; decide) (by decide) dX10_readLine_35 (?_ : SdS X 38 [(0, 20)] [0] _)
      refine su_if_eq (tgt := 48) hC dX10_readLine_38 rfl (?_ : SdS X 48 [(0, 20)] [] _) (?_ : SdS X 41 [(0, 20)] [] _)
      · refine su_aload_n hC 20 dX10_readLine_48 rfl (by decide) (by decide) (?_ : SdS X 49 [(0, 20)] [20] _)
        refine su_ldcS hC (tx0 := "store") (i := 3) rfl (by decide) (by decide) dX10_readLine_49 (?_ : SdS X 51 [(0, 20)] [5, 20] _)
        refine su_inv0 (τ := []) (τr := [5]) (ci := 10) (q := (RX10, TX10, 45)) hC WG (M_X10_isWord _) rfl rfl rfl rfl  rfl rfl wl_6_213 wl_6_215 wp_68 wl_1_10 wl_6_216 hd_X10_isWord (by rw [e3]; decide) (by decide) dX10_readLine_51 (?_ : SdS X 54 [(0, 20)] [0] _)
        refine su_if_eq (tgt := 64) hC dX10_readLine_54 rfl (?_ : SdS X 64 [(0, 20)] [] _) (?_ : SdS X 57 [(0, 20)] [] _)
        · refine su_aload_n hC 20 dX10_readLine_64 rfl (by decide) (by decide) (?_ : SdS X 65 [(0, 20)] [20] _)
          refine su_ldcS hC (tx0 := "good") (i := 4) rfl (by decide) (by decide) dX10_readLine_65 (?_ : SdS X 67 [(0, 20)] [5, 20] _)
          refine su_inv0 (τ := []) (τr := [5]) (ci := 10) (q := (RX10, TX10, 45)) hC WG (M_X10_isWord _) rfl rfl rfl rfl  rfl rfl wl_6_213 wl_6_215 wp_68 wl_1_10 wl_6_216 hd_X10_isWord (by rw [e3]; decide) (by decide) dX10_readLine_67 (?_ : SdS X 70 [(0, 20)] [0] _)
          refine su_if_eq (tgt := 80) hC dX10_readLine_70 rfl (?_ : SdS X 80 [(0, 20)] [] _) (?_ : SdS X 73 [(0, 20)] [] _)
          · refine su_aload_n hC 20 dX10_readLine_80 rfl (by decide) (by decide) (?_ : SdS X 81 [(0, 20)] [20] _)
            refine su_ldcS hC (tx0 := "order") (i := 5) rfl (by decide) (by decide) dX10_readLine_81 (?_ : SdS X 83 [(0, 20)] [5, 20] _)
            refine su_inv0 (τ := []) (τr := [5]) (ci := 10) (q := (RX10, TX10, 45)) hC WG (M_X10_isWord _) rfl rfl rfl rfl  rfl rfl wl_6_213 wl_6_215 wp_68 wl_1_10 wl_6_216 hd_X10_isWord (by rw [e3]; decide) (by decide) dX10_readLine_83 (?_ : SdS X 86 [(0, 20)] [0] _)
            refine su_if_eq (tgt := 96) hC dX10_readLine_86 rfl (?_ : SdS X 96 [(0, 20)] [] _) (?_ : SdS X 89 [(0, 20)] [] _)
            · refine su_aload_n hC 20 dX10_readLine_96 rfl (by decide) (by decide) (?_ : SdS X 97 [(0, 20)] [20] _)
              refine su_iconst hC dX10_readLine_97 ⟨by decide, by decide⟩ (?_ : SdS X 98 [(0, 20)] [0, 20] _)
              refine su_inv0v (τ := []) (τr := [0]) (ci := 10) (q := (RX10, TX10, 45)) hC WG (M_X10_wrong _) rfl rfl rfl rfl  rfl rfl wl_6_226 wl_6_228 wp_70 wl_1_10 wl_6_229 hd_X10_wrong (by rw [e3]; decide) (by decide) dX10_readLine_98 (?_ : SdS X 101 [(0, 20)] [] _)
              exact SdS.weak (by decide) (S_101)
            · refine su_aload_n hC 20 dX10_readLine_89 rfl (by decide) (by decide) (?_ : SdS X 90 [(0, 20)] [20] _)
              refine su_inv0v (τ := []) (τr := []) (ci := 10) (q := (RX10, TX10, 45)) hC WG (M_X10_readOrder _) rfl rfl rfl rfl  rfl rfl wl_7_75 wl_7_77 wp_84 wl_1_10 wl_7_78 hd_X10_readOrder (by rw [e3]; decide) (by decide) dX10_readLine_90 (?_ : SdS X 93 [(0, 20)] [] _)
              refine su_goto (tgt := 101) hC dX10_readLine_93 rfl (?_ : SdS X 101 [(0, 20)] [] _)
              exact SdS.weak (by decide) (S_101)
          · refine su_aload_n hC 20 dX10_readLine_73 rfl (by decide) (by decide) (?_ : SdS X 74 [(0, 20)] [20] _)
            refine su_inv0v (τ := []) (τr := []) (ci := 10) (q := (RX10, TX10, 45)) hC WG (M_X10_readGood _) rfl rfl rfl rfl  rfl rfl wl_7_65 wl_7_67 wp_82 wl_1_10 wl_7_68 hd_X10_readGood (by rw [e3]; decide) (by decide) dX10_readLine_74 (?_ : SdS X 77 [(0, 20)] [] _)
            refine su_goto (tgt := 101) hC dX10_readLine_77 rfl (?_ : SdS X 101 [(0, 20)] [] _)
            exact SdS.weak (by decide) (S_101)
        · refine su_aload_n hC 20 dX10_readLine_57 rfl (by decide) (by decide) (?_ : SdS X 58 [(0, 20)] [20] _)
          refine su_inv0v (τ := []) (τr := []) (ci := 10) (q := (RX10, TX10, 45)) hC WG (M_X10_readStore _) rfl rfl rfl rfl  rfl rfl wl_7_59 wl_7_61 wp_81 wl_1_10 wl_7_62 hd_X10_readStore (by rw [e3]; decide) (by decide) dX10_readLine_58 (?_ : SdS X 61 [(0, 20)] [] _)
          refine su_goto (tgt := 101) hC dX10_readLine_61 rfl (?_ : SdS X 101 [(0, 20)] [] _)
          exact SdS.weak (by decide) (S_101)
      · refine su_aload_n hC 20 dX10_readLine_41 rfl (by decide) (by decide) (?_ : SdS X 42 [(0, 20)] [20] _)
        refine su_inv0v (τ := []) (τr := []) (ci := 10) (q := (RX10, TX10, 45)) hC WG (M_X10_readCart _) rfl rfl rfl rfl  rfl rfl wl_7_54 wl_7_56 wp_80 wl_1_10 wl_7_57 hd_X10_readCart (by rw [e3]; decide) (by decide) dX10_readLine_42 (?_ : SdS X 45 [(0, 20)] [] _)
        refine su_goto (tgt := 101) hC dX10_readLine_45 rfl (?_ : SdS X 101 [(0, 20)] [] _)
        exact SdS.weak (by decide) (S_101)
    · refine su_aload_n hC 20 dX10_readLine_25 rfl (by decide) (by decide) (?_ : SdS X 26 [(0, 20)] [20] _)
      refine su_inv0v (τ := []) (τr := []) (ci := 10) (q := (RX10, TX10, 45)) hC WG (M_X10_readGate _) rfl rfl rfl rfl  rfl rfl wl_7_6 wl_7_8 wp_74 wl_1_10 wl_7_9 hd_X10_readGate (by rw [e3]; decide) (by decide) dX10_readLine_26 (?_ : SdS X 29 [(0, 20)] [] _)
      refine su_goto (tgt := 101) hC dX10_readLine_29 rfl (?_ : SdS X 101 [(0, 20)] [] _)
      exact SdS.weak (by decide) (S_101)
  · refine su_aload_n hC 20 dX10_readLine_9 rfl (by decide) (by decide) (?_ : SdS X 10 [(0, 20)] [20] _)
    refine su_inv0v (τ := []) (τr := []) (ci := 10) (q := (RX10, TX10, 45)) hC WG (M_X10_readRings _) rfl rfl rfl rfl  rfl rfl wl_6_222 wl_6_224 wp_69 wl_1_10 wl_6_225 hd_X10_readRings (by rw [e3]; decide) (by decide) dX10_readLine_10 (?_ : SdS X 13 [(0, 20)] [] _)
    refine su_goto (tgt := 101) hC dX10_readLine_13 rfl (?_ : SdS X 101 [(0, 20)] [] _)
    exact SdS.weak (by decide) (S_101)
theorem wl_6_208 : Cond.methodLink RX10 186 yX10_readLine ∈ WALL := tb6 (List.mem_of_getElem? (i := 208) rfl) rfl
theorem wl_6_210 : Cond.instanceMethod yX10_readLine ∈ WALL := tb6 (List.mem_of_getElem? (i := 210) rfl) rfl
theorem wp_67 : Cond.selects RX10 yX10_readLine yX10_readLine ∈ WALL := tbS (List.mem_of_getElem? (i := 67) rfl)
theorem wl_6_211 : Cond.code yX10_readLine cX10_readLine 1 none ∈ WALL := tb6 (List.mem_of_getElem? (i := 211) rfl) rfl
theorem hd_X10_readCity : yX10_readCity.cls ≠ "java/lang/invoke/MethodHandle" ∧ yX10_readCity.cls ≠ "java/lang/invoke/VarHandle" ∧ (parseMethodDescriptor yX10_readCity.desc).map (fun d => d.parameters.length) = some 0 := by decide +kernel
set_option maxRecDepth 100000 in
set_option maxHeartbeats 4000000 in
theorem M_X10_readCity (l : Launch) : MtS l yX10_readCity (Cond.code yX10_readCity cX10_readCity 2 none :: WALL) { frames := 10, cells := 0, slots := 0, locals := 223 } [20] none T_X10_readCity := by
  refine MtS.mk (B := E_X10_readCity) (by decide +kernel) (by decide) (fun _ _ _ hh => hh) ?_
  intro X Q e1 e2 e3 hC hN hT
  subst e1
  have hC : CF X cX10_readCity RX10 WALL := hC
  have S_49 : SdS X 49 [(0, 20), (1, 0)] [] (B_X10_readCity_49 Q) := by
    unfold B_X10_readCity_49
    exact su_return hC hT dX10_readCity_49
  have S_33 : SdS X 33 [(0, 20), (1, 0)] [] (B_X10_readCity_33 Q) := by
    unfold B_X10_readCity_33
    refine su_aload_n hC 20 dX10_readCity_33 rfl (by decide) (by decide) (?_ : SdS X 34 [(0, 20), (1, 0)] [20] _)
    refine su_getR hC (ci := 10) (j := 4) (C := RX10) (T := TX10) (N := 45) rfl rfl (by decide) in_X10 wl_5_168 rfl dX10_readCity_34 (?_ : SdS X 37 [(0, 20), (1, 0)] [19] _)
    refine su_getFN hC (ci := 9) (j := 0) (C := RX9) (T := TX9) (N := 28) (host := "NarrowRingsModel") rfl rfl (by decide) in_X9 (by decide) rfl dX10_readCity_37 (?_ : SdS X 40 [(0, 20), (1, 0)] [0] _)
    refine su_if_ne (tgt := 49) hC dX10_readCity_40 rfl (?_ : SdS X 49 [(0, 20), (1, 0)] [] _) (?_ : SdS X 43 [(0, 20), (1, 0)] [] _)
    · exact SdS.weak (by decide) (S_49)
    · refine su_aload_n hC 20 dX10_readCity_43 rfl (by decide) (by decide) (?_ : SdS X 44 [(0, 20), (1, 0)] [20] _)
      refine su_bipush hC dX10_readCity_44 (by decide) (?_ : SdS X 46 [(0, 20), (1, 0)] [0, 20] _)
      refine su_inv0v (τ := []) (τr := [0]) (ci := 10) (q := (RX10, TX10, 45)) hC WG (M_X10_wrong _) rfl rfl rfl rfl  rfl rfl wl_6_226 wl_6_228 wp_70 wl_1_10 wl_6_229 hd_X10_wrong (by rw [e3]; decide) (by decide) dX10_readCity_46 (?_ : SdS X 49 [(0, 20), (1, 0)] [] _)
      exact SdS.weak (by decide) (S_49)
  have S_2 : SdS X 2 [(0, 20), (1, 0)] [] (L_X10_readCity_2 Q) := by
    unfold L_X10_readCity_2
    refine SdS.loop (fun k2 h2 => ?_)
    refine su_iload_n hC dX10_readCity_2 rfl (by decide) (?_ : SdS X 3 [(0, 20), (1, 0)] [0] _)
    refine su_if_eq (tgt := 20) hC dX10_readCity_3 rfl (?_ : SdS X 20 [(0, 20), (1, 0)] [] _) (?_ : SdS X 6 [(0, 20), (1, 0)] [] _)
    · refine su_aload_n hC 20 dX10_readCity_20 rfl (by decide) (by decide) (?_ : SdS X 21 [(0, 20), (1, 0)] [20] _)
      refine su_getF hC (ci := 10) (j := 9) (C := RX10) (T := TX10) (N := 45) rfl rfl (by decide) in_X10 wl_5_173 rfl dX10_readCity_21 (?_ : SdS X 24 [(0, 20), (1, 0)] [0] _)
      refine su_iconst hC dX10_readCity_24 ⟨by decide, by decide⟩ (?_ : SdS X 25 [(0, 20), (1, 0)] [0, 0] _)
      refine su_icmp_eq (tgt := 33) hC dX10_readCity_25 rfl (?_ : SdS X 33 [(0, 20), (1, 0)] [] _) (?_ : SdS X 28 [(0, 20), (1, 0)] [] _)
      · exact SdS.weak (by decide) (S_33)
      · refine su_aload_n hC 20 dX10_readCity_28 rfl (by decide) (by decide) (?_ : SdS X 29 [(0, 20), (1, 0)] [20] _)
        refine su_iconst hC dX10_readCity_29 ⟨by decide, by decide⟩ (?_ : SdS X 30 [(0, 20), (1, 0)] [0, 20] _)
        refine su_inv0v (τ := []) (τr := [0]) (ci := 10) (q := (RX10, TX10, 45)) hC WG (M_X10_wrong _) rfl rfl rfl rfl  rfl rfl wl_6_226 wl_6_228 wp_70 wl_1_10 wl_6_229 hd_X10_wrong (by rw [e3]; decide) (by decide) dX10_readCity_30 (?_ : SdS X 33 [(0, 20), (1, 0)] [] _)
        exact SdS.weak (by decide) (S_33)
    · refine su_aload_n hC 20 dX10_readCity_6 rfl (by decide) (by decide) (?_ : SdS X 7 [(0, 20), (1, 0)] [20] _)
      refine su_inv0v (τ := []) (τr := []) (ci := 10) (q := (RX10, TX10, 45)) hC WG (M_X10_readLine _) rfl rfl rfl rfl  rfl rfl wl_6_208 wl_6_210 wp_67 wl_1_10 wl_6_211 hd_X10_readLine (by rw [e3]; decide) (by decide) dX10_readCity_7 (?_ : SdS X 10 [(0, 20), (1, 0)] [] _)
      refine su_aload_n hC 20 dX10_readCity_10 rfl (by decide) (by decide) (?_ : SdS X 11 [(0, 20), (1, 0)] [20] _)
      refine su_bipush hC dX10_readCity_11 (by decide) (?_ : SdS X 13 [(0, 20), (1, 0)] [0, 20] _)
      refine su_inv0 (τ := []) (τr := [0]) (ci := 10) (q := (RX10, TX10, 45)) hC WG (M_X10_eatsSign _) rfl rfl rfl rfl  rfl rfl wl_7_1 wl_7_3 wp_73 wl_1_10 wl_7_4 hd_X10_eatsSign (by rw [e3]; decide) (by decide) dX10_readCity_13 (?_ : SdS X 16 [(0, 20), (1, 0)] [0] _)
      refine su_istore_n (Γ' := [(0, 20), (1, 0)]) hC dX10_readCity_16 rfl (by rw [e2]; decide) (by decide) (?_ : SdS X 17 [(0, 20), (1, 0)] [] _)
      refine su_goto (tgt := 2) hC dX10_readCity_17 rfl (?_ : SdS X 2 [(0, 20), (1, 0)] [] _)
      exact SdS.weak (by decide) h2
  refine (?_ : SdS X 0 [(0, 20)] [] (E_X10_readCity Q))
  unfold E_X10_readCity
  refine su_iconst hC dX10_readCity_0 ⟨by decide, by decide⟩ (?_ : SdS X 1 [(0, 20)] [0] _)
  refine su_istore_n (Γ' := [(0, 20), (1, 0)]) hC dX10_readCity_1 rfl (by rw [e2]; decide) (by decide) (?_ : SdS X 2 [(0, 20), (1, 0)] [] _)
  exact SdS.weak (by decide) (S_2)
theorem wl_5_170 : Cond.fieldLink RX10 329 "NarrowRingsModel" "taped" "I" ∈ WALL := tb5 (List.mem_of_getElem? (i := 170) rfl) rfl
theorem wl_6_76 : Cond.classLink RX10 175 RX9 ∈ WALL := tb6 (List.mem_of_getElem? (i := 76) rfl) rfl
theorem wl_6_77 : Cond.instantiable RX9 28 ∈ WALL := tb6 (List.mem_of_getElem? (i := 77) rfl) rfl
theorem wl_6_79 : Cond.instanceMethod yX9_init ∈ WALL := tb6 (List.mem_of_getElem? (i := 79) rfl) rfl
theorem wl_6_80 : Cond.code yX9_init cX9_init 1 none ∈ WALL := tb6 (List.mem_of_getElem? (i := 80) rfl) rfl
theorem wl_6_204 : Cond.methodLink RX10 333 yX10_readCity ∈ WALL := tb6 (List.mem_of_getElem? (i := 204) rfl) rfl
theorem wl_6_206 : Cond.instanceMethod yX10_readCity ∈ WALL := tb6 (List.mem_of_getElem? (i := 206) rfl) rfl
theorem wp_66 : Cond.selects RX10 yX10_readCity yX10_readCity ∈ WALL := tbS (List.mem_of_getElem? (i := 66) rfl)
theorem wl_6_207 : Cond.code yX10_readCity cX10_readCity 2 none ∈ WALL := tb6 (List.mem_of_getElem? (i := 207) rfl) rfl
theorem wl_5_208 : Cond.fieldLink RX10 340 "NarrowRingsModel" "acts" "I" ∈ WALL := tb5 (List.mem_of_getElem? (i := 208) rfl) rfl
theorem hd_X10_city : yX10_city.cls ≠ "java/lang/invoke/MethodHandle" ∧ yX10_city.cls ≠ "java/lang/invoke/VarHandle" ∧ (parseMethodDescriptor yX10_city.desc).map (fun d => d.parameters.length) = some 1 := by decide +kernel
set_option maxRecDepth 100000 in
set_option maxHeartbeats 4000000 in
theorem M_X10_city (l : Launch) : MtS l yX10_city (Cond.code yX10_city cX10_city 3 (some .int) :: WALL) { frames := 11, cells := 23, slots := 319, locals := 244 } [20, 0] (some 0) T_X10_city := by
  refine MtS.mk (B := E_X10_city) (by decide +kernel) (by decide) (fun _ _ _ hh => hh) ?_
  intro X Q e1 e2 e3 hC hN hT
  subst e1
  have hC : CF X cX10_city RX10 WALL := hC
  have S_17 : SdS X 17 [(0, 20), (1, 0)] [] (B_X10_city_17 Q) := by
    unfold B_X10_city_17
    refine su_aload_n hC 20 dX10_city_17 rfl (by decide) (by decide) (?_ : SdS X 18 [(0, 20), (1, 0)] [20] _)
    refine su_iconst hC dX10_city_18 ⟨by decide, by decide⟩ (?_ : SdS X 19 [(0, 20), (1, 0)] [0, 20] _)
    refine su_inv0 (τ := []) (τr := [0]) (ci := 10) (q := (RX10, TX10, 45)) hC WG (M_X10_refused _) rfl rfl rfl rfl  rfl rfl wl_6_72 wl_6_74 wp_63 wl_1_10 wl_6_75 hd_X10_refused (by rw [e3]; decide) (by decide) dX10_city_19 (?_ : SdS X 22 [(0, 20), (1, 0)] [0] _)
    exact su_ireturn hC hT dX10_city_22
  have S_99 : SdS X 99 [(0, 20), (1, 0), (2, 0)] [] (L_X10_city_99 Q) := by
    unfold L_X10_city_99
    refine SdS.loop (fun k99 h99 => ?_)
    refine su_iload_n hC dX10_city_99 rfl (by decide) (?_ : SdS X 100 [(0, 20), (1, 0), (2, 0)] [0] _)
    refine su_aload_n hC 20 dX10_city_100 rfl (by decide) (by decide) (?_ : SdS X 101 [(0, 20), (1, 0), (2, 0)] [20, 0] _)
    refine su_getR hC (ci := 10) (j := 16) (C := RX10) (T := TX10) (N := 45) rfl rfl (by decide) in_X10 wl_5_180 rfl dX10_city_101 (?_ : SdS X 104 [(0, 20), (1, 0), (2, 0)] [100, 0] _)
    refine su_alen (e := 0) hC (List.mem_of_getElem? (i := 0) rfl) dX10_city_104 (?_ : SdS X 105 [(0, 20), (1, 0), (2, 0)] [0, 0] _)
    refine su_icmp_ge (tgt := 129) hC dX10_city_105 rfl (?_ : SdS X 129 [(0, 20), (1, 0), (2, 0)] [] _) (?_ : SdS X 108 [(0, 20), (1, 0), (2, 0)] [] _)
    · refine su_aload_n hC 20 dX10_city_129 rfl (by decide) (by decide) (?_ : SdS X 130 [(0, 20), (1, 0), (2, 0)] [20] _)
      refine su_aload_n hC 20 dX10_city_130 rfl (by decide) (by decide) (?_ : SdS X 131 [(0, 20), (1, 0), (2, 0)] [20, 20] _)
      refine su_getR hC (ci := 10) (j := 3) (C := RX10) (T := TX10) (N := 45) rfl rfl (by decide) in_X10 wl_5_167 rfl dX10_city_131 (?_ : SdS X 134 [(0, 20), (1, 0), (2, 0)] [19, 20] _)
      refine su_getFN hC (ci := 9) (j := 1) (C := RX9) (T := TX9) (N := 28) (host := "NarrowRingsModel") rfl rfl (by decide) in_X9 (by decide) rfl dX10_city_134 (?_ : SdS X 137 [(0, 20), (1, 0), (2, 0)] [0, 20] _)
      refine su_putF hC (ci := 10) (j := 17) (C := RX10) (T := TX10) (N := 45) tyX10 tyX10_ok nmX10 rfl rfl (by decide) in_X10 rfl rfl wl_5_181 rfl dX10_city_137 (?_ : SdS X 140 [(0, 20), (1, 0), (2, 0)] [] _)
      refine su_aload_n hC 20 dX10_city_140 rfl (by decide) (by decide) (?_ : SdS X 141 [(0, 20), (1, 0), (2, 0)] [20] _)
      refine su_iconst hC dX10_city_141 ⟨by decide, by decide⟩ (?_ : SdS X 142 [(0, 20), (1, 0), (2, 0)] [0, 20] _)
      refine su_putF hC (ci := 10) (j := 44) (C := RX10) (T := TX10) (N := 45) tyX10 tyX10_ok nmX10 rfl rfl (by decide) in_X10 rfl rfl wl_5_208 rfl dX10_city_142 (?_ : SdS X 145 [(0, 20), (1, 0), (2, 0)] [] _)
      refine su_aload_n hC 20 dX10_city_145 rfl (by decide) (by decide) (?_ : SdS X 146 [(0, 20), (1, 0), (2, 0)] [20] _)
      refine su_inv0v (τ := []) (τr := []) (ci := 10) (q := (RX10, TX10, 45)) hC WG (M_X10_dawns _) rfl rfl rfl rfl  rfl rfl wl_7_87 wl_7_89 wp_86 wl_1_10 wl_7_90 hd_X10_dawns (by rw [e3]; decide) (by decide) dX10_city_146 (?_ : SdS X 149 [(0, 20), (1, 0), (2, 0)] [] _)
      refine su_aload_n hC 20 dX10_city_149 rfl (by decide) (by decide) (?_ : SdS X 150 [(0, 20), (1, 0), (2, 0)] [20] _)
      refine su_aload_n hC 20 dX10_city_150 rfl (by decide) (by decide) (?_ : SdS X 151 [(0, 20), (1, 0), (2, 0)] [20, 20] _)
      refine su_getR hC (ci := 10) (j := 3) (C := RX10) (T := TX10) (N := 45) rfl rfl (by decide) in_X10 wl_5_167 rfl dX10_city_151 (?_ : SdS X 154 [(0, 20), (1, 0), (2, 0)] [19, 20] _)
      refine su_getFN hC (ci := 9) (j := 0) (C := RX9) (T := TX9) (N := 28) (host := "NarrowRingsModel") rfl rfl (by decide) in_X9 (by decide) rfl dX10_city_154 (?_ : SdS X 157 [(0, 20), (1, 0), (2, 0)] [0, 20] _)
      refine su_inv0 (τ := []) (τr := [0]) (ci := 10) (q := (RX10, TX10, 45)) hC WG (M_X10_good _) rfl rfl rfl rfl  rfl rfl wl_7_171 wl_7_173 wp_105 wl_1_10 wl_7_174 hd_X10_good (by rw [e3]; decide) (by decide) dX10_city_157 (?_ : SdS X 160 [(0, 20), (1, 0), (2, 0)] [0] _)
      exact su_ireturn hC hT dX10_city_160
    · refine su_aload_n hC 20 dX10_city_108 rfl (by decide) (by decide) (?_ : SdS X 109 [(0, 20), (1, 0), (2, 0)] [20] _)
      refine su_getR hC (ci := 10) (j := 16) (C := RX10) (T := TX10) (N := 45) rfl rfl (by decide) in_X10 wl_5_180 rfl dX10_city_109 (?_ : SdS X 112 [(0, 20), (1, 0), (2, 0)] [100] _)
      refine su_iload_n hC dX10_city_112 rfl (by decide) (?_ : SdS X 113 [(0, 20), (1, 0), (2, 0)] [0, 100] _)
      refine su_aload_n hC 20 dX10_city_113 rfl (by decide) (by decide) (?_ : SdS X 114 [(0, 20), (1, 0), (2, 0)] [20, 0, 100] _)
      refine su_getR hC (ci := 10) (j := 3) (C := RX10) (T := TX10) (N := 45) rfl rfl (by decide) in_X10 wl_5_167 rfl dX10_city_114 (?_ : SdS X 117 [(0, 20), (1, 0), (2, 0)] [19, 0, 100] _)
      refine su_getRN hC (ci := 9) (j := 12) (C := RX9) (T := TX9) (N := 28) (host := "NarrowRingsModel") rfl rfl (by decide) in_X9 (by decide) rfl dX10_city_117 (?_ : SdS X 120 [(0, 20), (1, 0), (2, 0)] [100, 0, 100] _)
      refine su_iload_n hC dX10_city_120 rfl (by decide) (?_ : SdS X 121 [(0, 20), (1, 0), (2, 0)] [0, 100, 0, 100] _)
      refine su_iaload hC dX10_city_121 (?_ : SdS X 122 [(0, 20), (1, 0), (2, 0)] [0, 0, 100] _)
      refine su_iastore hC dX10_city_122 (?_ : SdS X 123 [(0, 20), (1, 0), (2, 0)] [] _)
      refine su_iinc (Γ' := [(0, 20), (1, 0), (2, 0)]) hC dX10_city_123 (by decide) (by rw [e2]; decide) (by decide) (?_ : SdS X 126 [(0, 20), (1, 0), (2, 0)] [] _)
      refine su_goto (tgt := 99) hC dX10_city_126 rfl (?_ : SdS X 99 [(0, 20), (1, 0), (2, 0)] [] _)
      exact SdS.weak (by decide) h99
  refine (?_ : SdS X 0 [(0, 20), (1, 0)] [] (E_X10_city Q))
  unfold E_X10_city
  refine su_aload_n hC 20 dX10_city_0 rfl (by decide) (by decide) (?_ : SdS X 1 [(0, 20), (1, 0)] [20] _)
  refine su_iconst hC dX10_city_1 ⟨by decide, by decide⟩ (?_ : SdS X 2 [(0, 20), (1, 0)] [0, 20] _)
  refine su_putF hC (ci := 10) (j := 0) (C := RX10) (T := TX10) (N := 45) tyX10 tyX10_ok nmX10 rfl rfl (by decide) in_X10 rfl rfl wl_5_164 rfl dX10_city_2 (?_ : SdS X 5 [(0, 20), (1, 0)] [] _)
  refine su_iload_n hC dX10_city_5 rfl (by decide) (?_ : SdS X 6 [(0, 20), (1, 0)] [0] _)
  refine su_if_lt (tgt := 17) hC dX10_city_6 rfl (?_ : SdS X 17 [(0, 20), (1, 0)] [] _) (?_ : SdS X 9 [(0, 20), (1, 0)] [] _)
  · exact SdS.weak (by decide) (S_17)
  · refine su_iload_n hC dX10_city_9 rfl (by decide) (?_ : SdS X 10 [(0, 20), (1, 0)] [0] _)
    refine su_aload_n hC 20 dX10_city_10 rfl (by decide) (by decide) (?_ : SdS X 11 [(0, 20), (1, 0)] [20, 0] _)
    refine su_getF hC (ci := 10) (j := 6) (C := RX10) (T := TX10) (N := 45) rfl rfl (by decide) in_X10 wl_5_170 rfl dX10_city_11 (?_ : SdS X 14 [(0, 20), (1, 0)] [0, 0] _)
    refine su_icmp_le (tgt := 23) hC dX10_city_14 rfl (?_ : SdS X 23 [(0, 20), (1, 0)] [] _) (?_ : SdS X 17 [(0, 20), (1, 0)] [] _)
    · refine su_aload_n hC 20 dX10_city_23 rfl (by decide) (by decide) (?_ : SdS X 24 [(0, 20), (1, 0)] [20] _)
      refine su_iload_n hC dX10_city_24 rfl (by decide) (?_ : SdS X 25 [(0, 20), (1, 0)] [0, 20] _)
      refine su_putF hC (ci := 10) (j := 7) (C := RX10) (T := TX10) (N := 45) tyX10 tyX10_ok nmX10 rfl rfl (by decide) in_X10 rfl rfl wl_5_171 rfl dX10_city_25 (?_ : SdS X 28 [(0, 20), (1, 0)] [] _)
      refine su_aload_n hC 20 dX10_city_28 rfl (by decide) (by decide) (?_ : SdS X 29 [(0, 20), (1, 0)] [20] _)
      refine su_iconst hC dX10_city_29 ⟨by decide, by decide⟩ (?_ : SdS X 30 [(0, 20), (1, 0)] [0, 20] _)
      refine su_putF hC (ci := 10) (j := 6) (C := RX10) (T := TX10) (N := 45) tyX10 tyX10_ok nmX10 rfl rfl (by decide) in_X10 rfl rfl wl_5_170 rfl dX10_city_30 (?_ : SdS X 33 [(0, 20), (1, 0)] [] _)
      refine su_aload_n hC 20 dX10_city_33 rfl (by decide) (by decide) (?_ : SdS X 34 [(0, 20), (1, 0)] [20] _)
      refine su_iconst hC dX10_city_34 ⟨by decide, by decide⟩ (?_ : SdS X 35 [(0, 20), (1, 0)] [0, 20] _)
      refine su_putF hC (ci := 10) (j := 8) (C := RX10) (T := TX10) (N := 45) tyX10 tyX10_ok nmX10 rfl rfl (by decide) in_X10 rfl rfl wl_5_172 rfl dX10_city_35 (?_ : SdS X 38 [(0, 20), (1, 0)] [] _)
      refine su_aload_n hC 20 dX10_city_38 rfl (by decide) (by decide) (?_ : SdS X 39 [(0, 20), (1, 0)] [20] _)
      refine su_iconst hC dX10_city_39 ⟨by decide, by decide⟩ (?_ : SdS X 40 [(0, 20), (1, 0)] [0, 20] _)
      refine su_putF hC (ci := 10) (j := 13) (C := RX10) (T := TX10) (N := 45) tyX10 tyX10_ok nmX10 rfl rfl (by decide) in_X10 rfl rfl wl_5_177 rfl dX10_city_40 (?_ : SdS X 43 [(0, 20), (1, 0)] [] _)
      refine su_aload_n hC 20 dX10_city_43 rfl (by decide) (by decide) (?_ : SdS X 44 [(0, 20), (1, 0)] [20] _)
      refine su_new hC (ci := 9) (C := RX9) (T := TX9) (N := 28) tyX9 tyX9_ok (by decide) rfl in_X9 wl_6_76 wl_6_77 wl_1_17 (by rw [e3]) (by rw [e3]) dX10_city_44 (?_ : SdS X 47 [(0, 20), (1, 0)] [19, 20] _)
      refine su_dup hC (by decide) dX10_city_47 (?_ : SdS X 48 [(0, 20), (1, 0)] [19, 19, 20] _)
      refine su_inviN (τ := [19, 20]) (τr := []) (ci := 9) (host := "NarrowRingsModel") hC WG (M_X9_init _) rfl rfl rfl rfl (by rw [e3]) (by rw [e3]) rfl (by decide) wl_6_79 wl_1_17 wl_6_80 hd_X9_init (by rw [e3]; decide) (by decide) dX10_city_48 (?_ : SdS X 51 [(0, 20), (1, 0)] [19, 20] _)
      refine su_putR hC (ci := 10) (j := 4) (C := RX10) (T := TX10) (N := 45) tyX10 tyX10_ok nmX10 rfl rfl (by decide) in_X10 rfl rfl wl_5_168 rfl dX10_city_51 (?_ : SdS X 54 [(0, 20), (1, 0)] [] _)
      refine su_aload_n hC 20 dX10_city_54 rfl (by decide) (by decide) (?_ : SdS X 55 [(0, 20), (1, 0)] [20] _)
      refine su_iconst hC dX10_city_55 ⟨by decide, by decide⟩ (?_ : SdS X 56 [(0, 20), (1, 0)] [0, 20] _)
      refine su_putF hC (ci := 10) (j := 9) (C := RX10) (T := TX10) (N := 45) tyX10 tyX10_ok nmX10 rfl rfl (by decide) in_X10 rfl rfl wl_5_173 rfl dX10_city_56 (?_ : SdS X 59 [(0, 20), (1, 0)] [] _)
      refine su_aload_n hC 20 dX10_city_59 rfl (by decide) (by decide) (?_ : SdS X 60 [(0, 20), (1, 0)] [20] _)
      refine su_inv0v (τ := []) (τr := []) (ci := 10) (q := (RX10, TX10, 45)) hC WG (M_X10_goesOn _) rfl rfl rfl rfl  rfl rfl wl_6_189 wl_6_191 wp_64 wl_1_10 wl_6_192 hd_X10_goesOn (by rw [e3]; decide) (by decide) dX10_city_60 (?_ : SdS X 63 [(0, 20), (1, 0)] [] _)
      refine su_aload_n hC 20 dX10_city_63 rfl (by decide) (by decide) (?_ : SdS X 64 [(0, 20), (1, 0)] [20] _)
      refine su_inv0v (τ := []) (τr := []) (ci := 10) (q := (RX10, TX10, 45)) hC WG (M_X10_readCity _) rfl rfl rfl rfl  rfl rfl wl_6_204 wl_6_206 wp_66 wl_1_10 wl_6_207 hd_X10_readCity (by rw [e3]; decide) (by decide) dX10_city_64 (?_ : SdS X 67 [(0, 20), (1, 0)] [] _)
      refine su_aload_n hC 20 dX10_city_67 rfl (by decide) (by decide) (?_ : SdS X 68 [(0, 20), (1, 0)] [20] _)
      refine su_getF hC (ci := 10) (j := 13) (C := RX10) (T := TX10) (N := 45) rfl rfl (by decide) in_X10 wl_5_177 rfl dX10_city_68 (?_ : SdS X 71 [(0, 20), (1, 0)] [0] _)
      refine su_if_le (tgt := 89) hC dX10_city_71 rfl (?_ : SdS X 89 [(0, 20), (1, 0)] [] _) (?_ : SdS X 74 [(0, 20), (1, 0)] [] _)
      · refine su_aload_n hC 20 dX10_city_89 rfl (by decide) (by decide) (?_ : SdS X 90 [(0, 20), (1, 0)] [20] _)
        refine su_aload_n hC 20 dX10_city_90 rfl (by decide) (by decide) (?_ : SdS X 91 [(0, 20), (1, 0)] [20, 20] _)
        refine su_getR hC (ci := 10) (j := 4) (C := RX10) (T := TX10) (N := 45) rfl rfl (by decide) in_X10 wl_5_168 rfl dX10_city_91 (?_ : SdS X 94 [(0, 20), (1, 0)] [19, 20] _)
        refine su_putR hC (ci := 10) (j := 3) (C := RX10) (T := TX10) (N := 45) tyX10 tyX10_ok nmX10 rfl rfl (by decide) in_X10 rfl rfl wl_5_167 rfl dX10_city_94 (?_ : SdS X 97 [(0, 20), (1, 0)] [] _)
        refine su_iconst hC dX10_city_97 ⟨by decide, by decide⟩ (?_ : SdS X 98 [(0, 20), (1, 0)] [0] _)
        refine su_istore_n (Γ' := [(0, 20), (1, 0), (2, 0)]) hC dX10_city_98 rfl (by rw [e2]; decide) (by decide) (?_ : SdS X 99 [(0, 20), (1, 0), (2, 0)] [] _)
        exact SdS.weak (by decide) (S_99)
      · refine su_aload_n hC 20 dX10_city_74 rfl (by decide) (by decide) (?_ : SdS X 75 [(0, 20), (1, 0)] [20] _)
        refine su_iconst hC dX10_city_75 ⟨by decide, by decide⟩ (?_ : SdS X 76 [(0, 20), (1, 0)] [0, 20] _)
        refine su_putF hC (ci := 10) (j := 1) (C := RX10) (T := TX10) (N := 45) tyX10 tyX10_ok nmX10 rfl rfl (by decide) in_X10 rfl rfl wl_5_165 rfl dX10_city_76 (?_ : SdS X 79 [(0, 20), (1, 0)] [] _)
        refine su_aload_n hC 20 dX10_city_79 rfl (by decide) (by decide) (?_ : SdS X 80 [(0, 20), (1, 0)] [20] _)
        refine su_aload_n hC 20 dX10_city_80 rfl (by decide) (by decide) (?_ : SdS X 81 [(0, 20), (1, 0)] [20, 20] _)
        refine su_getF hC (ci := 10) (j := 14) (C := RX10) (T := TX10) (N := 45) rfl rfl (by decide) in_X10 wl_5_178 rfl dX10_city_81 (?_ : SdS X 84 [(0, 20), (1, 0)] [0, 20] _)
        refine su_putF hC (ci := 10) (j := 2) (C := RX10) (T := TX10) (N := 45) tyX10 tyX10_ok nmX10 rfl rfl (by decide) in_X10 rfl rfl wl_5_166 rfl dX10_city_84 (?_ : SdS X 87 [(0, 20), (1, 0)] [] _)
        refine su_iconst hC dX10_city_87 ⟨by decide, by decide⟩ (?_ : SdS X 88 [(0, 20), (1, 0)] [0] _)
        exact su_ireturn hC hT dX10_city_88
    · exact SdS.weak (by decide) (S_17)
theorem wl_5_207 : Cond.fieldLink RX10 58 "NarrowRingsModel" "beforeMany" "[I" ∈ WALL := tb5 (List.mem_of_getElem? (i := 207) rfl) rfl
theorem wl_5_206 : Cond.fieldLink RX10 55 "NarrowRingsModel" "before" "[I" ∈ WALL := tb5 (List.mem_of_getElem? (i := 206) rfl) rfl
theorem hd_X10_keeps : yX10_keeps.cls ≠ "java/lang/invoke/MethodHandle" ∧ yX10_keeps.cls ≠ "java/lang/invoke/VarHandle" ∧ (parseMethodDescriptor yX10_keeps.desc).map (fun d => d.parameters.length) = some 0 := by decide +kernel
set_option maxRecDepth 100000 in
set_option maxHeartbeats 4000000 in
theorem M_X10_keeps (l : Launch) : MtS l yX10_keeps (Cond.code yX10_keeps cX10_keeps 3 none :: WALL) { frames := 0, cells := 0, slots := 0, locals := 0 } [20] none T_X10_keeps := by
  refine MtS.mk (B := E_X10_keeps) (by decide +kernel) (by decide) (fun _ _ _ hh => hh) ?_
  intro X Q e1 e2 e3 hC hN hT
  subst e1
  have hC : CF X cX10_keeps RX10 WALL := hC
  have S_82 : SdS X 82 [(0, 20), (1, 0), (2, 0)] [] (L_X10_keeps_82 Q) := by
    unfold L_X10_keeps_82
    refine SdS.loop (fun k82 h82 => ?_)
    refine su_iload_n hC dX10_keeps_82 rfl (by decide) (?_ : SdS X 83 [(0, 20), (1, 0), (2, 0)] [0] _)
    refine su_iload_n hC dX10_keeps_83 rfl (by decide) (?_ : SdS X 84 [(0, 20), (1, 0), (2, 0)] [0, 0] _)
    refine su_icmp_ge (tgt := 112) hC dX10_keeps_84 rfl (?_ : SdS X 112 [(0, 20), (1, 0), (2, 0)] [] _) (?_ : SdS X 87 [(0, 20), (1, 0), (2, 0)] [] _)
    · refine su_aload_n hC 20 dX10_keeps_112 rfl (by decide) (by decide) (?_ : SdS X 113 [(0, 20), (1, 0), (2, 0)] [20] _)
      refine su_getR hC (ci := 10) (j := 43) (C := RX10) (T := TX10) (N := 45) rfl rfl (by decide) in_X10 wl_5_207 rfl dX10_keeps_113 (?_ : SdS X 116 [(0, 20), (1, 0), (2, 0)] [100] _)
      refine su_aload_n hC 20 dX10_keeps_116 rfl (by decide) (by decide) (?_ : SdS X 117 [(0, 20), (1, 0), (2, 0)] [20, 100] _)
      refine su_getF hC (ci := 10) (j := 44) (C := RX10) (T := TX10) (N := 45) rfl rfl (by decide) in_X10 wl_5_208 rfl dX10_keeps_117 (?_ : SdS X 120 [(0, 20), (1, 0), (2, 0)] [0, 100] _)
      refine su_aload_n hC 20 dX10_keeps_120 rfl (by decide) (by decide) (?_ : SdS X 121 [(0, 20), (1, 0), (2, 0)] [20, 0, 100] _)
      refine su_getF hC (ci := 10) (j := 17) (C := RX10) (T := TX10) (N := 45) rfl rfl (by decide) in_X10 wl_5_181 rfl dX10_keeps_121 (?_ : SdS X 124 [(0, 20), (1, 0), (2, 0)] [0, 0, 100] _)
      refine su_iastore hC dX10_keeps_124 (?_ : SdS X 125 [(0, 20), (1, 0), (2, 0)] [] _)
      refine su_aload_n hC 20 dX10_keeps_125 rfl (by decide) (by decide) (?_ : SdS X 126 [(0, 20), (1, 0), (2, 0)] [20] _)
      refine su_dup hC (by decide) dX10_keeps_126 (?_ : SdS X 127 [(0, 20), (1, 0), (2, 0)] [20, 20] _)
      refine su_getF hC (ci := 10) (j := 44) (C := RX10) (T := TX10) (N := 45) rfl rfl (by decide) in_X10 wl_5_208 rfl dX10_keeps_127 (?_ : SdS X 130 [(0, 20), (1, 0), (2, 0)] [0, 20] _)
      refine su_iconst hC dX10_keeps_130 ⟨by decide, by decide⟩ (?_ : SdS X 131 [(0, 20), (1, 0), (2, 0)] [0, 0, 20] _)
      refine su_iadd hC dX10_keeps_131 (?_ : SdS X 132 [(0, 20), (1, 0), (2, 0)] [0, 20] _)
      refine su_putF hC (ci := 10) (j := 44) (C := RX10) (T := TX10) (N := 45) tyX10 tyX10_ok nmX10 rfl rfl (by decide) in_X10 rfl rfl wl_5_208 rfl dX10_keeps_132 (?_ : SdS X 135 [(0, 20), (1, 0), (2, 0)] [] _)
      exact su_return hC hT dX10_keeps_135
    · refine su_aload_n hC 20 dX10_keeps_87 rfl (by decide) (by decide) (?_ : SdS X 88 [(0, 20), (1, 0), (2, 0)] [20] _)
      refine su_getR hC (ci := 10) (j := 42) (C := RX10) (T := TX10) (N := 45) rfl rfl (by decide) in_X10 wl_5_206 rfl dX10_keeps_88 (?_ : SdS X 91 [(0, 20), (1, 0), (2, 0)] [100] _)
      refine su_iload_n hC dX10_keeps_91 rfl (by decide) (?_ : SdS X 92 [(0, 20), (1, 0), (2, 0)] [0, 100] _)
      refine su_aload_n hC 20 dX10_keeps_92 rfl (by decide) (by decide) (?_ : SdS X 93 [(0, 20), (1, 0), (2, 0)] [20, 0, 100] _)
      refine su_getF hC (ci := 10) (j := 44) (C := RX10) (T := TX10) (N := 45) rfl rfl (by decide) in_X10 wl_5_208 rfl dX10_keeps_93 (?_ : SdS X 96 [(0, 20), (1, 0), (2, 0)] [0, 0, 100] _)
      refine su_imul hC dX10_keeps_96 (?_ : SdS X 97 [(0, 20), (1, 0), (2, 0)] [0, 100] _)
      refine su_iload_n hC dX10_keeps_97 rfl (by decide) (?_ : SdS X 98 [(0, 20), (1, 0), (2, 0)] [0, 0, 100] _)
      refine su_iadd hC dX10_keeps_98 (?_ : SdS X 99 [(0, 20), (1, 0), (2, 0)] [0, 100] _)
      refine su_aload_n hC 20 dX10_keeps_99 rfl (by decide) (by decide) (?_ : SdS X 100 [(0, 20), (1, 0), (2, 0)] [20, 0, 100] _)
      refine su_getR hC (ci := 10) (j := 16) (C := RX10) (T := TX10) (N := 45) rfl rfl (by decide) in_X10 wl_5_180 rfl dX10_keeps_100 (?_ : SdS X 103 [(0, 20), (1, 0), (2, 0)] [100, 0, 100] _)
      refine su_iload_n hC dX10_keeps_103 rfl (by decide) (?_ : SdS X 104 [(0, 20), (1, 0), (2, 0)] [0, 100, 0, 100] _)
      refine su_iaload hC dX10_keeps_104 (?_ : SdS X 105 [(0, 20), (1, 0), (2, 0)] [0, 0, 100] _)
      refine su_iastore hC dX10_keeps_105 (?_ : SdS X 106 [(0, 20), (1, 0), (2, 0)] [] _)
      refine su_iinc (Γ' := [(0, 20), (1, 0), (2, 0)]) hC dX10_keeps_106 (by decide) (by rw [e2]; decide) (by decide) (?_ : SdS X 109 [(0, 20), (1, 0), (2, 0)] [] _)
      refine su_goto (tgt := 82) hC dX10_keeps_109 rfl (?_ : SdS X 82 [(0, 20), (1, 0), (2, 0)] [] _)
      exact SdS.weak (by decide) h82
  have S_80 : SdS X 80 [(0, 20), (1, 0)] [] (B_X10_keeps_80 Q) := by
    unfold B_X10_keeps_80
    refine su_iconst hC dX10_keeps_80 ⟨by decide, by decide⟩ (?_ : SdS X 81 [(0, 20), (1, 0)] [0] _)
    refine su_istore_n (Γ' := [(0, 20), (1, 0), (2, 0)]) hC dX10_keeps_81 rfl (by rw [e2]; decide) (by decide) (?_ : SdS X 82 [(0, 20), (1, 0), (2, 0)] [] _)
    exact SdS.weak (by decide) (S_82)
  have S_44 : SdS X 44 [(0, 20), (1, 0), (2, 0)] [] (L_X10_keeps_44 Q) := by
    unfold L_X10_keeps_44
    refine SdS.loop (fun k44 h44 => ?_)
    refine su_iload_n hC dX10_keeps_44 rfl (by decide) (?_ : SdS X 45 [(0, 20), (1, 0), (2, 0)] [0] _)
    refine su_bipush hC dX10_keeps_45 (by decide) (?_ : SdS X 47 [(0, 20), (1, 0), (2, 0)] [0, 0] _)
    refine su_icmp_ge (tgt := 70) hC dX10_keeps_47 rfl (?_ : SdS X 70 [(0, 20), (1, 0), (2, 0)] [] _) (?_ : SdS X 50 [(0, 20), (1, 0), (2, 0)] [] _)
    · refine su_aload_n hC 20 dX10_keeps_70 rfl (by decide) (by decide) (?_ : SdS X 71 [(0, 20), (1, 0), (2, 0)] [20] _)
      refine su_dup hC (by decide) dX10_keeps_71 (?_ : SdS X 72 [(0, 20), (1, 0), (2, 0)] [20, 20] _)
      refine su_getF hC (ci := 10) (j := 44) (C := RX10) (T := TX10) (N := 45) rfl rfl (by decide) in_X10 wl_5_208 rfl dX10_keeps_72 (?_ : SdS X 75 [(0, 20), (1, 0), (2, 0)] [0, 20] _)
      refine su_iconst hC dX10_keeps_75 ⟨by decide, by decide⟩ (?_ : SdS X 76 [(0, 20), (1, 0), (2, 0)] [0, 0, 20] _)
      refine su_isub hC dX10_keeps_76 (?_ : SdS X 77 [(0, 20), (1, 0), (2, 0)] [0, 20] _)
      refine su_putF hC (ci := 10) (j := 44) (C := RX10) (T := TX10) (N := 45) tyX10 tyX10_ok nmX10 rfl rfl (by decide) in_X10 rfl rfl wl_5_208 rfl dX10_keeps_77 (?_ : SdS X 80 [(0, 20), (1, 0), (2, 0)] [] _)
      exact SdS.weak (by decide) (S_80)
    · refine su_aload_n hC 20 dX10_keeps_50 rfl (by decide) (by decide) (?_ : SdS X 51 [(0, 20), (1, 0), (2, 0)] [20] _)
      refine su_getR hC (ci := 10) (j := 43) (C := RX10) (T := TX10) (N := 45) rfl rfl (by decide) in_X10 wl_5_207 rfl dX10_keeps_51 (?_ : SdS X 54 [(0, 20), (1, 0), (2, 0)] [100] _)
      refine su_iload_n hC dX10_keeps_54 rfl (by decide) (?_ : SdS X 55 [(0, 20), (1, 0), (2, 0)] [0, 100] _)
      refine su_iconst hC dX10_keeps_55 ⟨by decide, by decide⟩ (?_ : SdS X 56 [(0, 20), (1, 0), (2, 0)] [0, 0, 100] _)
      refine su_isub hC dX10_keeps_56 (?_ : SdS X 57 [(0, 20), (1, 0), (2, 0)] [0, 100] _)
      refine su_aload_n hC 20 dX10_keeps_57 rfl (by decide) (by decide) (?_ : SdS X 58 [(0, 20), (1, 0), (2, 0)] [20, 0, 100] _)
      refine su_getR hC (ci := 10) (j := 43) (C := RX10) (T := TX10) (N := 45) rfl rfl (by decide) in_X10 wl_5_207 rfl dX10_keeps_58 (?_ : SdS X 61 [(0, 20), (1, 0), (2, 0)] [100, 0, 100] _)
      refine su_iload_n hC dX10_keeps_61 rfl (by decide) (?_ : SdS X 62 [(0, 20), (1, 0), (2, 0)] [0, 100, 0, 100] _)
      refine su_iaload hC dX10_keeps_62 (?_ : SdS X 63 [(0, 20), (1, 0), (2, 0)] [0, 0, 100] _)
      refine su_iastore hC dX10_keeps_63 (?_ : SdS X 64 [(0, 20), (1, 0), (2, 0)] [] _)
      refine su_iinc (Γ' := [(0, 20), (1, 0), (2, 0)]) hC dX10_keeps_64 (by decide) (by rw [e2]; decide) (by decide) (?_ : SdS X 67 [(0, 20), (1, 0), (2, 0)] [] _)
      refine su_goto (tgt := 44) hC dX10_keeps_67 rfl (?_ : SdS X 44 [(0, 20), (1, 0), (2, 0)] [] _)
      exact SdS.weak (by decide) h44
  have S_14 : SdS X 14 [(0, 20), (1, 0), (2, 0)] [] (L_X10_keeps_14 Q) := by
    unfold L_X10_keeps_14
    refine SdS.loop (fun k14 h14 => ?_)
    refine su_iload_n hC dX10_keeps_14 rfl (by decide) (?_ : SdS X 15 [(0, 20), (1, 0), (2, 0)] [0] _)
    refine su_iload_n hC dX10_keeps_15 rfl (by decide) (?_ : SdS X 16 [(0, 20), (1, 0), (2, 0)] [0, 0] _)
    refine su_bipush hC dX10_keeps_16 (by decide) (?_ : SdS X 18 [(0, 20), (1, 0), (2, 0)] [0, 0, 0] _)
    refine su_imul hC dX10_keeps_18 (?_ : SdS X 19 [(0, 20), (1, 0), (2, 0)] [0, 0] _)
    refine su_icmp_ge (tgt := 42) hC dX10_keeps_19 rfl (?_ : SdS X 42 [(0, 20), (1, 0), (2, 0)] [] _) (?_ : SdS X 22 [(0, 20), (1, 0), (2, 0)] [] _)
    · refine su_iconst hC dX10_keeps_42 ⟨by decide, by decide⟩ (?_ : SdS X 43 [(0, 20), (1, 0), (2, 0)] [0] _)
      refine su_istore_n (Γ' := [(0, 20), (1, 0), (2, 0)]) hC dX10_keeps_43 rfl (by rw [e2]; decide) (by decide) (?_ : SdS X 44 [(0, 20), (1, 0), (2, 0)] [] _)
      exact SdS.weak (by decide) (S_44)
    · refine su_aload_n hC 20 dX10_keeps_22 rfl (by decide) (by decide) (?_ : SdS X 23 [(0, 20), (1, 0), (2, 0)] [20] _)
      refine su_getR hC (ci := 10) (j := 42) (C := RX10) (T := TX10) (N := 45) rfl rfl (by decide) in_X10 wl_5_206 rfl dX10_keeps_23 (?_ : SdS X 26 [(0, 20), (1, 0), (2, 0)] [100] _)
      refine su_iload_n hC dX10_keeps_26 rfl (by decide) (?_ : SdS X 27 [(0, 20), (1, 0), (2, 0)] [0, 100] _)
      refine su_aload_n hC 20 dX10_keeps_27 rfl (by decide) (by decide) (?_ : SdS X 28 [(0, 20), (1, 0), (2, 0)] [20, 0, 100] _)
      refine su_getR hC (ci := 10) (j := 42) (C := RX10) (T := TX10) (N := 45) rfl rfl (by decide) in_X10 wl_5_206 rfl dX10_keeps_28 (?_ : SdS X 31 [(0, 20), (1, 0), (2, 0)] [100, 0, 100] _)
      refine su_iload_n hC dX10_keeps_31 rfl (by decide) (?_ : SdS X 32 [(0, 20), (1, 0), (2, 0)] [0, 100, 0, 100] _)
      refine su_iload_n hC dX10_keeps_32 rfl (by decide) (?_ : SdS X 33 [(0, 20), (1, 0), (2, 0)] [0, 0, 100, 0, 100] _)
      refine su_iadd hC dX10_keeps_33 (?_ : SdS X 34 [(0, 20), (1, 0), (2, 0)] [0, 100, 0, 100] _)
      refine su_iaload hC dX10_keeps_34 (?_ : SdS X 35 [(0, 20), (1, 0), (2, 0)] [0, 0, 100] _)
      refine su_iastore hC dX10_keeps_35 (?_ : SdS X 36 [(0, 20), (1, 0), (2, 0)] [] _)
      refine su_iinc (Γ' := [(0, 20), (1, 0), (2, 0)]) hC dX10_keeps_36 (by decide) (by rw [e2]; decide) (by decide) (?_ : SdS X 39 [(0, 20), (1, 0), (2, 0)] [] _)
      refine su_goto (tgt := 14) hC dX10_keeps_39 rfl (?_ : SdS X 14 [(0, 20), (1, 0), (2, 0)] [] _)
      exact SdS.weak (by decide) h14
  refine (?_ : SdS X 0 [(0, 20)] [] (E_X10_keeps Q))
  unfold E_X10_keeps
  refine su_bipush hC dX10_keeps_0 (by decide) (?_ : SdS X 2 [(0, 20)] [0] _)
  refine su_istore_n (Γ' := [(0, 20), (1, 0)]) hC dX10_keeps_2 rfl (by rw [e2]; decide) (by decide) (?_ : SdS X 3 [(0, 20), (1, 0)] [] _)
  refine su_aload_n hC 20 dX10_keeps_3 rfl (by decide) (by decide) (?_ : SdS X 4 [(0, 20), (1, 0)] [20] _)
  refine su_getF hC (ci := 10) (j := 44) (C := RX10) (T := TX10) (N := 45) rfl rfl (by decide) in_X10 wl_5_208 rfl dX10_keeps_4 (?_ : SdS X 7 [(0, 20), (1, 0)] [0] _)
  refine su_bipush hC dX10_keeps_7 (by decide) (?_ : SdS X 9 [(0, 20), (1, 0)] [0, 0] _)
  refine su_icmp_ne (tgt := 80) hC dX10_keeps_9 rfl (?_ : SdS X 80 [(0, 20), (1, 0)] [] _) (?_ : SdS X 12 [(0, 20), (1, 0)] [] _)
  · exact SdS.weak (by decide) (S_80)
  · refine su_iconst hC dX10_keeps_12 ⟨by decide, by decide⟩ (?_ : SdS X 13 [(0, 20), (1, 0)] [0] _)
    refine su_istore_n (Γ' := [(0, 20), (1, 0), (2, 0)]) hC dX10_keeps_13 rfl (by rw [e2]; decide) (by decide) (?_ : SdS X 14 [(0, 20), (1, 0), (2, 0)] [] _)
    exact SdS.weak (by decide) (S_14)
theorem wl_8_170 : Cond.methodLink RX10 532 yX10_keeps ∈ WALL := tb8 (List.mem_of_getElem? (i := 170) rfl) rfl
theorem wl_8_172 : Cond.instanceMethod yX10_keeps ∈ WALL := tb8 (List.mem_of_getElem? (i := 172) rfl) rfl
theorem wp_130 : Cond.selects RX10 yX10_keeps yX10_keeps ∈ WALL := tbS (List.mem_of_getElem? (i := 130) rfl)
theorem wl_8_173 : Cond.code yX10_keeps cX10_keeps 3 none ∈ WALL := tb8 (List.mem_of_getElem? (i := 173) rfl) rfl
theorem hd_X10_close : yX10_close.cls ≠ "java/lang/invoke/MethodHandle" ∧ yX10_close.cls ≠ "java/lang/invoke/VarHandle" ∧ (parseMethodDescriptor yX10_close.desc).map (fun d => d.parameters.length) = some 1 := by decide +kernel
set_option maxRecDepth 100000 in
set_option maxHeartbeats 4000000 in
theorem M_X10_close (l : Launch) : MtS l yX10_close (Cond.code yX10_close cX10_close 2 (some .boolean) :: WALL) { frames := 8, cells := 0, slots := 0, locals := 195 } [20, 0] (some 0) T_X10_close := by
  refine MtS.mk (B := E_X10_close) (by decide +kernel) (by decide) (fun _ _ _ hh => hh) ?_
  intro X Q e1 e2 e3 hC hN hT
  subst e1
  have hC : CF X cX10_close RX10 WALL := hC
  refine (?_ : SdS X 0 [(0, 20), (1, 0)] [] (E_X10_close Q))
  unfold E_X10_close
  refine su_aload_n hC 20 dX10_close_0 rfl (by decide) (by decide) (?_ : SdS X 1 [(0, 20), (1, 0)] [20] _)
  refine su_iconst hC dX10_close_1 ⟨by decide, by decide⟩ (?_ : SdS X 2 [(0, 20), (1, 0)] [0, 20] _)
  refine su_putF hC (ci := 10) (j := 0) (C := RX10) (T := TX10) (N := 45) tyX10 tyX10_ok nmX10 rfl rfl (by decide) in_X10 rfl rfl wl_5_164 rfl dX10_close_2 (?_ : SdS X 5 [(0, 20), (1, 0)] [] _)
  refine su_aload_n hC 20 dX10_close_5 rfl (by decide) (by decide) (?_ : SdS X 6 [(0, 20), (1, 0)] [20] _)
  refine su_iload_n hC dX10_close_6 rfl (by decide) (?_ : SdS X 7 [(0, 20), (1, 0)] [0, 20] _)
  refine su_inv0 (τ := []) (τr := [0]) (ci := 10) (q := (RX10, TX10, 45)) hC WG (M_X10_isGate _) rfl rfl rfl rfl  rfl rfl wl_7_187 wl_7_189 wp_106 wl_1_10 wl_7_190 hd_X10_isGate (by rw [e3]; decide) (by decide) dX10_close_7 (?_ : SdS X 10 [(0, 20), (1, 0)] [0] _)
  refine su_if_ne (tgt := 19) hC dX10_close_10 rfl (?_ : SdS X 19 [(0, 20), (1, 0)] [] _) (?_ : SdS X 13 [(0, 20), (1, 0)] [] _)
  · refine su_aload_n hC 20 dX10_close_19 rfl (by decide) (by decide) (?_ : SdS X 20 [(0, 20), (1, 0)] [20] _)
    refine su_iload_n hC dX10_close_20 rfl (by decide) (?_ : SdS X 21 [(0, 20), (1, 0)] [0, 20] _)
    refine su_bipush hC dX10_close_21 (by decide) (?_ : SdS X 23 [(0, 20), (1, 0)] [0, 0, 20] _)
    refine su_inv0 (τ := []) (τr := [0, 0]) (ci := 10) (q := (RX10, TX10, 45)) hC WG (M_X10_of _) rfl rfl rfl rfl  rfl rfl wl_7_131 wl_7_133 wp_96 wl_1_10 wl_7_134 hd_X10_of (by rw [e3]; decide) (by decide) dX10_close_23 (?_ : SdS X 26 [(0, 20), (1, 0)] [0] _)
    refine su_iconst hC dX10_close_26 ⟨by decide, by decide⟩ (?_ : SdS X 27 [(0, 20), (1, 0)] [0, 0] _)
    refine su_icmp_ne (tgt := 36) hC dX10_close_27 rfl (?_ : SdS X 36 [(0, 20), (1, 0)] [] _) (?_ : SdS X 30 [(0, 20), (1, 0)] [] _)
    · refine su_aload_n hC 20 dX10_close_36 rfl (by decide) (by decide) (?_ : SdS X 37 [(0, 20), (1, 0)] [20] _)
      refine su_inv0v (τ := []) (τr := []) (ci := 10) (q := (RX10, TX10, 45)) hC WG (M_X10_keeps _) rfl rfl rfl rfl  rfl rfl wl_8_170 wl_8_172 wp_130 wl_1_10 wl_8_173 hd_X10_keeps (by rw [e3]; decide) (by decide) dX10_close_37 (?_ : SdS X 40 [(0, 20), (1, 0)] [] _)
      refine su_aload_n hC 20 dX10_close_40 rfl (by decide) (by decide) (?_ : SdS X 41 [(0, 20), (1, 0)] [20] _)
      refine su_getR hC (ci := 10) (j := 16) (C := RX10) (T := TX10) (N := 45) rfl rfl (by decide) in_X10 wl_5_180 rfl dX10_close_41 (?_ : SdS X 44 [(0, 20), (1, 0)] [100] _)
      refine su_bipush hC dX10_close_44 (by decide) (?_ : SdS X 46 [(0, 20), (1, 0)] [0, 100] _)
      refine su_iload_n hC dX10_close_46 rfl (by decide) (?_ : SdS X 47 [(0, 20), (1, 0)] [0, 0, 100] _)
      refine su_imul hC dX10_close_47 (?_ : SdS X 48 [(0, 20), (1, 0)] [0, 100] _)
      refine su_bipush hC dX10_close_48 (by decide) (?_ : SdS X 50 [(0, 20), (1, 0)] [0, 0, 100] _)
      refine su_iadd hC dX10_close_50 (?_ : SdS X 51 [(0, 20), (1, 0)] [0, 100] _)
      refine su_iconst hC dX10_close_51 ⟨by decide, by decide⟩ (?_ : SdS X 52 [(0, 20), (1, 0)] [0, 0, 100] _)
      refine su_iastore hC dX10_close_52 (?_ : SdS X 53 [(0, 20), (1, 0)] [] _)
      refine su_aload_n hC 20 dX10_close_53 rfl (by decide) (by decide) (?_ : SdS X 54 [(0, 20), (1, 0)] [20] _)
      refine su_inv0v (τ := []) (τr := []) (ci := 10) (q := (RX10, TX10, 45)) hC WG (M_X10_dawns _) rfl rfl rfl rfl  rfl rfl wl_7_87 wl_7_89 wp_86 wl_1_10 wl_7_90 hd_X10_dawns (by rw [e3]; decide) (by decide) dX10_close_54 (?_ : SdS X 57 [(0, 20), (1, 0)] [] _)
      refine su_aload_n hC 20 dX10_close_57 rfl (by decide) (by decide) (?_ : SdS X 58 [(0, 20), (1, 0)] [20] _)
      refine su_inv0 (τ := []) (τr := []) (ci := 10) (q := (RX10, TX10, 45)) hC WG (M_X10_granted _) rfl rfl rfl rfl  rfl rfl wl_8_75 wl_8_77 wp_125 wl_1_10 wl_8_78 hd_X10_granted (by rw [e3]; decide) (by decide) dX10_close_58 (?_ : SdS X 61 [(0, 20), (1, 0)] [0] _)
      exact su_zreturn hC hT dX10_close_61
    · refine su_aload_n hC 20 dX10_close_30 rfl (by decide) (by decide) (?_ : SdS X 31 [(0, 20), (1, 0)] [20] _)
      refine su_iconst hC dX10_close_31 ⟨by decide, by decide⟩ (?_ : SdS X 32 [(0, 20), (1, 0)] [0, 20] _)
      refine su_inv0 (τ := []) (τr := [0]) (ci := 10) (q := (RX10, TX10, 45)) hC WG (M_X10_denied _) rfl rfl rfl rfl  rfl rfl wl_8_71 wl_8_73 wp_124 wl_1_10 wl_8_74 hd_X10_denied (by rw [e3]; decide) (by decide) dX10_close_32 (?_ : SdS X 35 [(0, 20), (1, 0)] [0] _)
      exact su_zreturn hC hT dX10_close_35
  · refine su_aload_n hC 20 dX10_close_13 rfl (by decide) (by decide) (?_ : SdS X 14 [(0, 20), (1, 0)] [20] _)
    refine su_iconst hC dX10_close_14 ⟨by decide, by decide⟩ (?_ : SdS X 15 [(0, 20), (1, 0)] [0, 20] _)
    refine su_inv0 (τ := []) (τr := [0]) (ci := 10) (q := (RX10, TX10, 45)) hC WG (M_X10_denied _) rfl rfl rfl rfl  rfl rfl wl_8_71 wl_8_73 wp_124 wl_1_10 wl_8_74 hd_X10_denied (by rw [e3]; decide) (by decide) dX10_close_15 (?_ : SdS X 18 [(0, 20), (1, 0)] [0] _)
    exact su_zreturn hC hT dX10_close_18
theorem hd_X10_isAtEnd : yX10_isAtEnd.cls ≠ "java/lang/invoke/MethodHandle" ∧ yX10_isAtEnd.cls ≠ "java/lang/invoke/VarHandle" ∧ (parseMethodDescriptor yX10_isAtEnd.desc).map (fun d => d.parameters.length) = some 1 := by decide +kernel
set_option maxRecDepth 100000 in
set_option maxHeartbeats 4000000 in
theorem M_X10_isAtEnd (l : Launch) : MtS l yX10_isAtEnd (Cond.code yX10_isAtEnd cX10_isAtEnd 2 (some .boolean) :: WALL) { frames := 0, cells := 0, slots := 0, locals := 0 } [20, 0] (some 0) T_X10_isAtEnd := by
  refine MtS.mk (B := E_X10_isAtEnd) (by decide +kernel) (by decide) (fun _ _ _ hh => hh) ?_
  intro X Q e1 e2 e3 hC hN hT
  subst e1
  have hC : CF X cX10_isAtEnd RX10 WALL := hC
  have S_31 : SdS X 31 [(0, 20), (1, 0)] [0] (B_X10_isAtEnd_31 Q) := by
    unfold B_X10_isAtEnd_31
    exact su_zreturn hC hT dX10_isAtEnd_31
  refine (?_ : SdS X 0 [(0, 20), (1, 0)] [] (E_X10_isAtEnd Q))
  unfold E_X10_isAtEnd
  refine su_aload_n hC 20 dX10_isAtEnd_0 rfl (by decide) (by decide) (?_ : SdS X 1 [(0, 20), (1, 0)] [20] _)
  refine su_getR hC (ci := 10) (j := 32) (C := RX10) (T := TX10) (N := 45) rfl rfl (by decide) in_X10 wl_5_196 rfl dX10_isAtEnd_1 (?_ : SdS X 4 [(0, 20), (1, 0)] [100] _)
  refine su_bipush hC dX10_isAtEnd_4 (by decide) (?_ : SdS X 6 [(0, 20), (1, 0)] [0, 100] _)
  refine su_iload_n hC dX10_isAtEnd_6 rfl (by decide) (?_ : SdS X 7 [(0, 20), (1, 0)] [0, 0, 100] _)
  refine su_imul hC dX10_isAtEnd_7 (?_ : SdS X 8 [(0, 20), (1, 0)] [0, 100] _)
  refine su_bipush hC dX10_isAtEnd_8 (by decide) (?_ : SdS X 10 [(0, 20), (1, 0)] [0, 0, 100] _)
  refine su_iadd hC dX10_isAtEnd_10 (?_ : SdS X 11 [(0, 20), (1, 0)] [0, 100] _)
  refine su_iaload hC dX10_isAtEnd_11 (?_ : SdS X 12 [(0, 20), (1, 0)] [0] _)
  refine su_aload_n hC 20 dX10_isAtEnd_12 rfl (by decide) (by decide) (?_ : SdS X 13 [(0, 20), (1, 0)] [20, 0] _)
  refine su_getR hC (ci := 10) (j := 37) (C := RX10) (T := TX10) (N := 45) rfl rfl (by decide) in_X10 wl_5_201 rfl dX10_isAtEnd_13 (?_ : SdS X 16 [(0, 20), (1, 0)] [100, 0] _)
  refine su_aload_n hC 20 dX10_isAtEnd_16 rfl (by decide) (by decide) (?_ : SdS X 17 [(0, 20), (1, 0)] [20, 100, 0] _)
  refine su_getR hC (ci := 10) (j := 34) (C := RX10) (T := TX10) (N := 45) rfl rfl (by decide) in_X10 wl_5_198 rfl dX10_isAtEnd_17 (?_ : SdS X 20 [(0, 20), (1, 0)] [100, 100, 0] _)
  refine su_iload_n hC dX10_isAtEnd_20 rfl (by decide) (?_ : SdS X 21 [(0, 20), (1, 0)] [0, 100, 100, 0] _)
  refine su_iaload hC dX10_isAtEnd_21 (?_ : SdS X 22 [(0, 20), (1, 0)] [0, 100, 0] _)
  refine su_iaload hC dX10_isAtEnd_22 (?_ : SdS X 23 [(0, 20), (1, 0)] [0, 0] _)
  refine su_icmp_ne (tgt := 30) hC dX10_isAtEnd_23 rfl (?_ : SdS X 30 [(0, 20), (1, 0)] [] _) (?_ : SdS X 26 [(0, 20), (1, 0)] [] _)
  · refine su_iconst hC dX10_isAtEnd_30 ⟨by decide, by decide⟩ (?_ : SdS X 31 [(0, 20), (1, 0)] [0] _)
    exact SdS.weak (by decide) (S_31)
  · refine su_iconst hC dX10_isAtEnd_26 ⟨by decide, by decide⟩ (?_ : SdS X 27 [(0, 20), (1, 0)] [0] _)
    refine su_goto (tgt := 31) hC dX10_isAtEnd_27 rfl (?_ : SdS X 31 [(0, 20), (1, 0)] [0] _)
    exact SdS.weak (by decide) (S_31)
theorem wl_8_39 : Cond.methodLink RX10 474 yX10_isAtEnd ∈ WALL := tb8 (List.mem_of_getElem? (i := 39) rfl) rfl
theorem wl_8_41 : Cond.instanceMethod yX10_isAtEnd ∈ WALL := tb8 (List.mem_of_getElem? (i := 41) rfl) rfl
theorem wp_117 : Cond.selects RX10 yX10_isAtEnd yX10_isAtEnd ∈ WALL := tbS (List.mem_of_getElem? (i := 117) rfl)
theorem wl_8_42 : Cond.code yX10_isAtEnd cX10_isAtEnd 2 (some .boolean) ∈ WALL := tb8 (List.mem_of_getElem? (i := 42) rfl) rfl
theorem hd_X10_comes : yX10_comes.cls ≠ "java/lang/invoke/MethodHandle" ∧ yX10_comes.cls ≠ "java/lang/invoke/VarHandle" ∧ (parseMethodDescriptor yX10_comes.desc).map (fun d => d.parameters.length) = some 1 := by decide +kernel
set_option maxRecDepth 100000 in
set_option maxHeartbeats 4000000 in
theorem M_X10_comes (l : Launch) : MtS l yX10_comes (Cond.code yX10_comes cX10_comes 3 none :: WALL) { frames := 1, cells := 0, slots := 0, locals := 21 } [20, 0] none T_X10_comes := by
  refine MtS.mk (B := E_X10_comes) (by decide +kernel) (by decide) (fun _ _ _ hh => hh) ?_
  intro X Q e1 e2 e3 hC hN hT
  subst e1
  have hC : CF X cX10_comes RX10 WALL := hC
  have S_68 : SdS X 68 [(0, 20), (1, 0), (2, 0)] [] (B_X10_comes_68 Q) := by
    unfold B_X10_comes_68
    exact su_return hC hT dX10_comes_68
  refine (?_ : SdS X 0 [(0, 20), (1, 0)] [] (E_X10_comes Q))
  unfold E_X10_comes
  refine su_bipush hC dX10_comes_0 (by decide) (?_ : SdS X 2 [(0, 20), (1, 0)] [0] _)
  refine su_iload_n hC dX10_comes_2 rfl (by decide) (?_ : SdS X 3 [(0, 20), (1, 0)] [0, 0] _)
  refine su_imul hC dX10_comes_3 (?_ : SdS X 4 [(0, 20), (1, 0)] [0] _)
  refine su_istore_n (Γ' := [(0, 20), (1, 0), (2, 0)]) hC dX10_comes_4 rfl (by rw [e2]; decide) (by decide) (?_ : SdS X 5 [(0, 20), (1, 0), (2, 0)] [] _)
  refine su_aload_n hC 20 dX10_comes_5 rfl (by decide) (by decide) (?_ : SdS X 6 [(0, 20), (1, 0), (2, 0)] [20] _)
  refine su_iload_n hC dX10_comes_6 rfl (by decide) (?_ : SdS X 7 [(0, 20), (1, 0), (2, 0)] [0, 20] _)
  refine su_inv0 (τ := []) (τr := [0]) (ci := 10) (q := (RX10, TX10, 45)) hC WG (M_X10_isAtEnd _) rfl rfl rfl rfl  rfl rfl wl_8_39 wl_8_41 wp_117 wl_1_10 wl_8_42 hd_X10_isAtEnd (by rw [e3]; decide) (by decide) dX10_comes_7 (?_ : SdS X 10 [(0, 20), (1, 0), (2, 0)] [0] _)
  refine su_if_eq (tgt := 42) hC dX10_comes_10 rfl (?_ : SdS X 42 [(0, 20), (1, 0), (2, 0)] [] _) (?_ : SdS X 13 [(0, 20), (1, 0), (2, 0)] [] _)
  · refine su_aload_n hC 20 dX10_comes_42 rfl (by decide) (by decide) (?_ : SdS X 43 [(0, 20), (1, 0), (2, 0)] [20] _)
    refine su_getR hC (ci := 10) (j := 32) (C := RX10) (T := TX10) (N := 45) rfl rfl (by decide) in_X10 wl_5_196 rfl dX10_comes_43 (?_ : SdS X 46 [(0, 20), (1, 0), (2, 0)] [100] _)
    refine su_iload_n hC dX10_comes_46 rfl (by decide) (?_ : SdS X 47 [(0, 20), (1, 0), (2, 0)] [0, 100] _)
    refine su_iconst hC dX10_comes_47 ⟨by decide, by decide⟩ (?_ : SdS X 48 [(0, 20), (1, 0), (2, 0)] [0, 0, 100] _)
    refine su_iadd hC dX10_comes_48 (?_ : SdS X 49 [(0, 20), (1, 0), (2, 0)] [0, 100] _)
    refine su_iconst hC dX10_comes_49 ⟨by decide, by decide⟩ (?_ : SdS X 50 [(0, 20), (1, 0), (2, 0)] [0, 0, 100] _)
    refine su_iastore hC dX10_comes_50 (?_ : SdS X 51 [(0, 20), (1, 0), (2, 0)] [] _)
    refine su_aload_n hC 20 dX10_comes_51 rfl (by decide) (by decide) (?_ : SdS X 52 [(0, 20), (1, 0), (2, 0)] [20] _)
    refine su_getR hC (ci := 10) (j := 32) (C := RX10) (T := TX10) (N := 45) rfl rfl (by decide) in_X10 wl_5_196 rfl dX10_comes_52 (?_ : SdS X 55 [(0, 20), (1, 0), (2, 0)] [100] _)
    refine su_iload_n hC dX10_comes_55 rfl (by decide) (?_ : SdS X 56 [(0, 20), (1, 0), (2, 0)] [0, 100] _)
    refine su_bipush hC dX10_comes_56 (by decide) (?_ : SdS X 58 [(0, 20), (1, 0), (2, 0)] [0, 0, 100] _)
    refine su_iadd hC dX10_comes_58 (?_ : SdS X 59 [(0, 20), (1, 0), (2, 0)] [0, 100] _)
    refine su_aload_n hC 20 dX10_comes_59 rfl (by decide) (by decide) (?_ : SdS X 60 [(0, 20), (1, 0), (2, 0)] [20, 0, 100] _)
    refine su_getR hC (ci := 10) (j := 32) (C := RX10) (T := TX10) (N := 45) rfl rfl (by decide) in_X10 wl_5_196 rfl dX10_comes_60 (?_ : SdS X 63 [(0, 20), (1, 0), (2, 0)] [100, 0, 100] _)
    refine su_sipush hC dX10_comes_63 (by decide) (?_ : SdS X 66 [(0, 20), (1, 0), (2, 0)] [0, 100, 0, 100] _)
    refine su_iaload hC dX10_comes_66 (?_ : SdS X 67 [(0, 20), (1, 0), (2, 0)] [0, 0, 100] _)
    refine su_iastore hC dX10_comes_67 (?_ : SdS X 68 [(0, 20), (1, 0), (2, 0)] [] _)
    exact SdS.weak (by decide) (S_68)
  · refine su_aload_n hC 20 dX10_comes_13 rfl (by decide) (by decide) (?_ : SdS X 14 [(0, 20), (1, 0), (2, 0)] [20] _)
    refine su_getR hC (ci := 10) (j := 32) (C := RX10) (T := TX10) (N := 45) rfl rfl (by decide) in_X10 wl_5_196 rfl dX10_comes_14 (?_ : SdS X 17 [(0, 20), (1, 0), (2, 0)] [100] _)
    refine su_iload_n hC dX10_comes_17 rfl (by decide) (?_ : SdS X 18 [(0, 20), (1, 0), (2, 0)] [0, 100] _)
    refine su_iconst hC dX10_comes_18 ⟨by decide, by decide⟩ (?_ : SdS X 19 [(0, 20), (1, 0), (2, 0)] [0, 0, 100] _)
    refine su_iadd hC dX10_comes_19 (?_ : SdS X 20 [(0, 20), (1, 0), (2, 0)] [0, 100] _)
    refine su_iconst hC dX10_comes_20 ⟨by decide, by decide⟩ (?_ : SdS X 21 [(0, 20), (1, 0), (2, 0)] [0, 0, 100] _)
    refine su_iastore hC dX10_comes_21 (?_ : SdS X 22 [(0, 20), (1, 0), (2, 0)] [] _)
    refine su_aload_n hC 20 dX10_comes_22 rfl (by decide) (by decide) (?_ : SdS X 23 [(0, 20), (1, 0), (2, 0)] [20] _)
    refine su_getR hC (ci := 10) (j := 32) (C := RX10) (T := TX10) (N := 45) rfl rfl (by decide) in_X10 wl_5_196 rfl dX10_comes_23 (?_ : SdS X 26 [(0, 20), (1, 0), (2, 0)] [100] _)
    refine su_iload_n hC dX10_comes_26 rfl (by decide) (?_ : SdS X 27 [(0, 20), (1, 0), (2, 0)] [0, 100] _)
    refine su_bipush hC dX10_comes_27 (by decide) (?_ : SdS X 29 [(0, 20), (1, 0), (2, 0)] [0, 0, 100] _)
    refine su_iadd hC dX10_comes_29 (?_ : SdS X 30 [(0, 20), (1, 0), (2, 0)] [0, 100] _)
    refine su_aload_n hC 20 dX10_comes_30 rfl (by decide) (by decide) (?_ : SdS X 31 [(0, 20), (1, 0), (2, 0)] [20, 0, 100] _)
    refine su_getR hC (ci := 10) (j := 32) (C := RX10) (T := TX10) (N := 45) rfl rfl (by decide) in_X10 wl_5_196 rfl dX10_comes_31 (?_ : SdS X 34 [(0, 20), (1, 0), (2, 0)] [100, 0, 100] _)
    refine su_sipush hC dX10_comes_34 (by decide) (?_ : SdS X 37 [(0, 20), (1, 0), (2, 0)] [0, 100, 0, 100] _)
    refine su_iaload hC dX10_comes_37 (?_ : SdS X 38 [(0, 20), (1, 0), (2, 0)] [0, 0, 100] _)
    refine su_iastore hC dX10_comes_38 (?_ : SdS X 39 [(0, 20), (1, 0), (2, 0)] [] _)
    refine su_goto (tgt := 68) hC dX10_comes_39 rfl (?_ : SdS X 68 [(0, 20), (1, 0), (2, 0)] [] _)
    exact SdS.weak (by decide) (S_68)
theorem hd_X10_deepestNow : yX10_deepestNow.cls ≠ "java/lang/invoke/MethodHandle" ∧ yX10_deepestNow.cls ≠ "java/lang/invoke/VarHandle" ∧ (parseMethodDescriptor yX10_deepestNow.desc).map (fun d => d.parameters.length) = some 0 := by decide +kernel
set_option maxRecDepth 100000 in
set_option maxHeartbeats 4000000 in
theorem M_X10_deepestNow (l : Launch) : MtS l yX10_deepestNow (Cond.code yX10_deepestNow cX10_deepestNow 4 (some .int) :: WALL) { frames := 4, cells := 0, slots := 0, locals := 90 } [20] (some 0) T_X10_deepestNow := by
  refine MtS.mk (B := E_X10_deepestNow) (by decide +kernel) (by decide) (fun _ _ _ hh => hh) ?_
  intro X Q e1 e2 e3 hC hN hT
  subst e1
  have hC : CF X cX10_deepestNow RX10 WALL := hC
  have S_85 : ∀ (k15 : xK), SdS X 15 [(0, 20), (1, 0), (2, 0)] [] k15 → SdS X 85 [(0, 20), (1, 0), (2, 0), (3, 0)] [0, 0] (B_X10_deepestNow_85 Q k15) := by
    intro k15 h15
    unfold B_X10_deepestNow_85
    refine su_iadd hC dX10_deepestNow_85 (?_ : SdS X 86 [(0, 20), (1, 0), (2, 0), (3, 0)] [0] _)
    refine su_istore_n (Γ' := [(0, 20), (1, 0), (2, 0), (3, 0)]) hC dX10_deepestNow_86 rfl (by rw [e2]; decide) (by decide) (?_ : SdS X 87 [(0, 20), (1, 0), (2, 0), (3, 0)] [] _)
    refine su_goto (tgt := 15) hC dX10_deepestNow_87 rfl (?_ : SdS X 15 [(0, 20), (1, 0), (2, 0), (3, 0)] [] _)
    exact SdS.weak (by decide) h15
  have S_68 : ∀ (k15 : xK), SdS X 15 [(0, 20), (1, 0), (2, 0)] [] k15 → ∀ (k23 : xK), SdS X 23 [(0, 20), (1, 0), (2, 0), (3, 0)] [] k23 → SdS X 68 [(0, 20), (1, 0), (2, 0), (3, 0)] [0] (B_X10_deepestNow_68 Q k15 k23) := by
    intro k15 h15 k23 h23
    unfold B_X10_deepestNow_68
    refine su_istore_n (Γ' := [(0, 20), (1, 0), (2, 0), (3, 0)]) hC dX10_deepestNow_68 rfl (by rw [e2]; decide) (by decide) (?_ : SdS X 69 [(0, 20), (1, 0), (2, 0), (3, 0)] [] _)
    refine su_iinc (Γ' := [(0, 20), (1, 0), (2, 0), (3, 0)]) hC dX10_deepestNow_69 (by decide) (by rw [e2]; decide) (by decide) (?_ : SdS X 72 [(0, 20), (1, 0), (2, 0), (3, 0)] [] _)
    refine su_goto (tgt := 23) hC dX10_deepestNow_72 rfl (?_ : SdS X 23 [(0, 20), (1, 0), (2, 0), (3, 0)] [] _)
    exact SdS.weak (by decide) h23
  have S_63 : ∀ (k15 : xK), SdS X 15 [(0, 20), (1, 0), (2, 0)] [] k15 → ∀ (k23 : xK), SdS X 23 [(0, 20), (1, 0), (2, 0), (3, 0)] [] k23 → SdS X 63 [(0, 20), (1, 0), (2, 0), (3, 0)] [] (B_X10_deepestNow_63 Q k15 k23) := by
    intro k15 h15 k23 h23
    unfold B_X10_deepestNow_63
    refine su_iconst hC dX10_deepestNow_63 ⟨by decide, by decide⟩ (?_ : SdS X 64 [(0, 20), (1, 0), (2, 0), (3, 0)] [0] _)
    refine su_goto (tgt := 68) hC dX10_deepestNow_64 rfl (?_ : SdS X 68 [(0, 20), (1, 0), (2, 0), (3, 0)] [0] _)
    exact SdS.weak (by decide) (S_68 k15 h15 k23 h23)
  have S_67 : ∀ (k15 : xK), SdS X 15 [(0, 20), (1, 0), (2, 0)] [] k15 → ∀ (k23 : xK), SdS X 23 [(0, 20), (1, 0), (2, 0), (3, 0)] [] k23 → SdS X 67 [(0, 20), (1, 0), (2, 0), (3, 0)] [] (B_X10_deepestNow_67 Q k15 k23) := by
    intro k15 h15 k23 h23
    unfold B_X10_deepestNow_67
    refine su_iconst hC dX10_deepestNow_67 ⟨by decide, by decide⟩ (?_ : SdS X 68 [(0, 20), (1, 0), (2, 0), (3, 0)] [0] _)
    exact SdS.weak (by decide) (S_68 k15 h15 k23 h23)
  have S_23 : ∀ (k15 : xK), SdS X 15 [(0, 20), (1, 0), (2, 0)] [] k15 → SdS X 23 [(0, 20), (1, 0), (2, 0), (3, 0)] [] (L_X10_deepestNow_23 Q k15) := by
    intro k15 h15
    unfold L_X10_deepestNow_23
    refine SdS.loop (fun k23 h23 => ?_)
    refine su_iload_n hC dX10_deepestNow_23 rfl (by decide) (?_ : SdS X 24 [(0, 20), (1, 0), (2, 0), (3, 0)] [0] _)
    refine su_aload_n hC 20 dX10_deepestNow_24 rfl (by decide) (by decide) (?_ : SdS X 25 [(0, 20), (1, 0), (2, 0), (3, 0)] [20, 0] _)
    refine su_getF hC (ci := 10) (j := 17) (C := RX10) (T := TX10) (N := 45) rfl rfl (by decide) in_X10 wl_5_181 rfl dX10_deepestNow_25 (?_ : SdS X 28 [(0, 20), (1, 0), (2, 0), (3, 0)] [0, 0] _)
    refine su_icmp_ge (tgt := 75) hC dX10_deepestNow_28 rfl (?_ : SdS X 75 [(0, 20), (1, 0), (2, 0), (3, 0)] [] _) (?_ : SdS X 31 [(0, 20), (1, 0), (2, 0), (3, 0)] [] _)
    · refine su_iload_n hC dX10_deepestNow_75 rfl (by decide) (?_ : SdS X 76 [(0, 20), (1, 0), (2, 0), (3, 0)] [0] _)
      refine su_iload_n hC dX10_deepestNow_76 rfl (by decide) (?_ : SdS X 77 [(0, 20), (1, 0), (2, 0), (3, 0)] [0, 0] _)
      refine su_if_eq (tgt := 84) hC dX10_deepestNow_77 rfl (?_ : SdS X 84 [(0, 20), (1, 0), (2, 0), (3, 0)] [0] _) (?_ : SdS X 80 [(0, 20), (1, 0), (2, 0), (3, 0)] [0] _)
      · refine su_iconst hC dX10_deepestNow_84 ⟨by decide, by decide⟩ (?_ : SdS X 85 [(0, 20), (1, 0), (2, 0), (3, 0)] [0, 0] _)
        exact SdS.weak (by decide) (S_85 k15 h15)
      · refine su_iconst hC dX10_deepestNow_80 ⟨by decide, by decide⟩ (?_ : SdS X 81 [(0, 20), (1, 0), (2, 0), (3, 0)] [0, 0] _)
        refine su_goto (tgt := 85) hC dX10_deepestNow_81 rfl (?_ : SdS X 85 [(0, 20), (1, 0), (2, 0), (3, 0)] [0, 0] _)
        exact SdS.weak (by decide) (S_85 k15 h15)
    · refine su_iload_n hC dX10_deepestNow_31 rfl (by decide) (?_ : SdS X 32 [(0, 20), (1, 0), (2, 0), (3, 0)] [0] _)
      refine su_if_ne (tgt := 63) hC dX10_deepestNow_32 rfl (?_ : SdS X 63 [(0, 20), (1, 0), (2, 0), (3, 0)] [] _) (?_ : SdS X 35 [(0, 20), (1, 0), (2, 0), (3, 0)] [] _)
      · exact SdS.weak (by decide) (S_63 k15 h15 k23 h23)
      · refine su_aload_n hC 20 dX10_deepestNow_35 rfl (by decide) (by decide) (?_ : SdS X 36 [(0, 20), (1, 0), (2, 0), (3, 0)] [20] _)
        refine su_iload_n hC dX10_deepestNow_36 rfl (by decide) (?_ : SdS X 37 [(0, 20), (1, 0), (2, 0), (3, 0)] [0, 20] _)
        refine su_iconst hC dX10_deepestNow_37 ⟨by decide, by decide⟩ (?_ : SdS X 38 [(0, 20), (1, 0), (2, 0), (3, 0)] [0, 0, 20] _)
        refine su_inv0 (τ := []) (τr := [0, 0]) (ci := 10) (q := (RX10, TX10, 45)) hC WG (M_X10_of _) rfl rfl rfl rfl  rfl rfl wl_7_131 wl_7_133 wp_96 wl_1_10 wl_7_134 hd_X10_of (by rw [e3]; decide) (by decide) dX10_deepestNow_38 (?_ : SdS X 41 [(0, 20), (1, 0), (2, 0), (3, 0)] [0] _)
        refine su_iload_n hC dX10_deepestNow_41 rfl (by decide) (?_ : SdS X 42 [(0, 20), (1, 0), (2, 0), (3, 0)] [0, 0] _)
        refine su_icmp_ne (tgt := 67) hC dX10_deepestNow_42 rfl (?_ : SdS X 67 [(0, 20), (1, 0), (2, 0), (3, 0)] [] _) (?_ : SdS X 45 [(0, 20), (1, 0), (2, 0), (3, 0)] [] _)
        · exact SdS.weak (by decide) (S_67 k15 h15 k23 h23)
        · refine su_aload_n hC 20 dX10_deepestNow_45 rfl (by decide) (by decide) (?_ : SdS X 46 [(0, 20), (1, 0), (2, 0), (3, 0)] [20] _)
          refine su_iload_n hC dX10_deepestNow_46 rfl (by decide) (?_ : SdS X 47 [(0, 20), (1, 0), (2, 0), (3, 0)] [0, 20] _)
          refine su_inv0 (τ := []) (τr := [0]) (ci := 10) (q := (RX10, TX10, 45)) hC WG (M_X10_goesThrough _) rfl rfl rfl rfl  rfl rfl wl_7_135 wl_7_137 wp_97 wl_1_10 wl_7_138 hd_X10_goesThrough (by rw [e3]; decide) (by decide) dX10_deepestNow_47 (?_ : SdS X 50 [(0, 20), (1, 0), (2, 0), (3, 0)] [0] _)
          refine su_if_eq (tgt := 67) hC dX10_deepestNow_50 rfl (?_ : SdS X 67 [(0, 20), (1, 0), (2, 0), (3, 0)] [] _) (?_ : SdS X 53 [(0, 20), (1, 0), (2, 0), (3, 0)] [] _)
          · exact SdS.weak (by decide) (S_67 k15 h15 k23 h23)
          · refine su_aload_n hC 20 dX10_deepestNow_53 rfl (by decide) (by decide) (?_ : SdS X 54 [(0, 20), (1, 0), (2, 0), (3, 0)] [20] _)
            refine su_iload_n hC dX10_deepestNow_54 rfl (by decide) (?_ : SdS X 55 [(0, 20), (1, 0), (2, 0), (3, 0)] [0, 20] _)
            refine su_iconst hC dX10_deepestNow_55 ⟨by decide, by decide⟩ (?_ : SdS X 56 [(0, 20), (1, 0), (2, 0), (3, 0)] [0, 0, 20] _)
            refine su_iadd hC dX10_deepestNow_56 (?_ : SdS X 57 [(0, 20), (1, 0), (2, 0), (3, 0)] [0, 20] _)
            refine su_inv0 (τ := []) (τr := [0]) (ci := 10) (q := (RX10, TX10, 45)) hC WG (M_X10_isBorne _) rfl rfl rfl rfl  rfl rfl wl_7_114 wl_7_116 wp_92 wl_1_10 wl_7_117 hd_X10_isBorne (by rw [e3]; decide) (by decide) dX10_deepestNow_57 (?_ : SdS X 60 [(0, 20), (1, 0), (2, 0), (3, 0)] [0] _)
            refine su_if_eq (tgt := 67) hC dX10_deepestNow_60 rfl (?_ : SdS X 67 [(0, 20), (1, 0), (2, 0), (3, 0)] [] _) (?_ : SdS X 63 [(0, 20), (1, 0), (2, 0), (3, 0)] [] _)
            · exact SdS.weak (by decide) (S_67 k15 h15 k23 h23)
            · exact SdS.weak (by decide) (S_63 k15 h15 k23 h23)
  have S_15 : SdS X 15 [(0, 20), (1, 0), (2, 0)] [] (L_X10_deepestNow_15 Q) := by
    unfold L_X10_deepestNow_15
    refine SdS.loop (fun k15 h15 => ?_)
    refine su_iload_n hC dX10_deepestNow_15 rfl (by decide) (?_ : SdS X 16 [(0, 20), (1, 0), (2, 0)] [0] _)
    refine su_if_eq (tgt := 90) hC dX10_deepestNow_16 rfl (?_ : SdS X 90 [(0, 20), (1, 0), (2, 0)] [] _) (?_ : SdS X 19 [(0, 20), (1, 0), (2, 0)] [] _)
    · refine su_iload_n hC dX10_deepestNow_90 rfl (by decide) (?_ : SdS X 91 [(0, 20), (1, 0), (2, 0)] [0] _)
      exact su_ireturn hC hT dX10_deepestNow_91
    · refine su_iconst hC dX10_deepestNow_19 ⟨by decide, by decide⟩ (?_ : SdS X 20 [(0, 20), (1, 0), (2, 0)] [0] _)
      refine su_istore_n (Γ' := [(0, 20), (1, 0), (2, 0)]) hC dX10_deepestNow_20 rfl (by rw [e2]; decide) (by decide) (?_ : SdS X 21 [(0, 20), (1, 0), (2, 0)] [] _)
      refine su_iconst hC dX10_deepestNow_21 ⟨by decide, by decide⟩ (?_ : SdS X 22 [(0, 20), (1, 0), (2, 0)] [0] _)
      refine su_istore_n (Γ' := [(0, 20), (1, 0), (2, 0), (3, 0)]) hC dX10_deepestNow_22 rfl (by rw [e2]; decide) (by decide) (?_ : SdS X 23 [(0, 20), (1, 0), (2, 0), (3, 0)] [] _)
      exact SdS.weak (by decide) (S_23 k15 h15)
  refine (?_ : SdS X 0 [(0, 20)] [] (E_X10_deepestNow Q))
  unfold E_X10_deepestNow
  refine su_aload_n hC 20 dX10_deepestNow_0 rfl (by decide) (by decide) (?_ : SdS X 1 [(0, 20)] [20] _)
  refine su_iconst hC dX10_deepestNow_1 ⟨by decide, by decide⟩ (?_ : SdS X 2 [(0, 20)] [0, 20] _)
  refine su_inv0 (τ := []) (τr := [0]) (ci := 10) (q := (RX10, TX10, 45)) hC WG (M_X10_isBorne _) rfl rfl rfl rfl  rfl rfl wl_7_114 wl_7_116 wp_92 wl_1_10 wl_7_117 hd_X10_isBorne (by rw [e3]; decide) (by decide) dX10_deepestNow_2 (?_ : SdS X 5 [(0, 20)] [0] _)
  refine su_if_ne (tgt := 11) hC dX10_deepestNow_5 rfl (?_ : SdS X 11 [(0, 20)] [] _) (?_ : SdS X 8 [(0, 20)] [] _)
  · refine su_iconst hC dX10_deepestNow_11 ⟨by decide, by decide⟩ (?_ : SdS X 12 [(0, 20)] [0] _)
    refine su_istore_n (Γ' := [(0, 20), (1, 0)]) hC dX10_deepestNow_12 rfl (by rw [e2]; decide) (by decide) (?_ : SdS X 13 [(0, 20), (1, 0)] [] _)
    refine su_iconst hC dX10_deepestNow_13 ⟨by decide, by decide⟩ (?_ : SdS X 14 [(0, 20), (1, 0)] [0] _)
    refine su_istore_n (Γ' := [(0, 20), (1, 0), (2, 0)]) hC dX10_deepestNow_14 rfl (by rw [e2]; decide) (by decide) (?_ : SdS X 15 [(0, 20), (1, 0), (2, 0)] [] _)
    exact SdS.weak (by decide) (S_15)
  · refine su_bipush hC dX10_deepestNow_8 (by decide) (?_ : SdS X 10 [(0, 20)] [0] _)
    exact su_ireturn hC hT dX10_deepestNow_10
theorem wl_7_211 : Cond.methodLink RX10 409 yX10_deepestNow ∈ WALL := tb7 (List.mem_of_getElem? (i := 211) rfl) rfl
theorem wl_7_213 : Cond.instanceMethod yX10_deepestNow ∈ WALL := tb7 (List.mem_of_getElem? (i := 213) rfl) rfl
theorem wp_109 : Cond.selects RX10 yX10_deepestNow yX10_deepestNow ∈ WALL := tbS (List.mem_of_getElem? (i := 109) rfl)
theorem wl_7_214 : Cond.code yX10_deepestNow cX10_deepestNow 4 (some .int) ∈ WALL := tb7 (List.mem_of_getElem? (i := 214) rfl) rfl
theorem hd_X10_deepest : yX10_deepest.cls ≠ "java/lang/invoke/MethodHandle" ∧ yX10_deepest.cls ≠ "java/lang/invoke/VarHandle" ∧ (parseMethodDescriptor yX10_deepest.desc).map (fun d => d.parameters.length) = some 1 := by decide +kernel
set_option maxRecDepth 100000 in
set_option maxHeartbeats 4000000 in
theorem M_X10_deepest (l : Launch) : MtS l yX10_deepest (Cond.code yX10_deepest cX10_deepest 2 (some .int) :: WALL) { frames := 5, cells := 0, slots := 0, locals := 113 } [20, 0] (some 0) T_X10_deepest := by
  refine MtS.mk (B := E_X10_deepest) (by decide +kernel) (by decide) (fun _ _ _ hh => hh) ?_
  intro X Q e1 e2 e3 hC hN hT
  subst e1
  have hC : CF X cX10_deepest RX10 WALL := hC
  refine (?_ : SdS X 0 [(0, 20), (1, 0)] [] (E_X10_deepest Q))
  unfold E_X10_deepest
  refine su_aload_n hC 20 dX10_deepest_0 rfl (by decide) (by decide) (?_ : SdS X 1 [(0, 20), (1, 0)] [20] _)
  refine su_iconst hC dX10_deepest_1 ⟨by decide, by decide⟩ (?_ : SdS X 2 [(0, 20), (1, 0)] [0, 20] _)
  refine su_putF hC (ci := 10) (j := 0) (C := RX10) (T := TX10) (N := 45) tyX10 tyX10_ok nmX10 rfl rfl (by decide) in_X10 rfl rfl wl_5_164 rfl dX10_deepest_2 (?_ : SdS X 5 [(0, 20), (1, 0)] [] _)
  refine su_aload_n hC 20 dX10_deepest_5 rfl (by decide) (by decide) (?_ : SdS X 6 [(0, 20), (1, 0)] [20] _)
  refine su_iload_n hC dX10_deepest_6 rfl (by decide) (?_ : SdS X 7 [(0, 20), (1, 0)] [0, 20] _)
  refine su_inv0 (τ := []) (τr := [0]) (ci := 10) (q := (RX10, TX10, 45)) hC WG (M_X10_isGood _) rfl rfl rfl rfl  rfl rfl wl_7_195 wl_7_197 wp_107 wl_1_10 wl_7_198 hd_X10_isGood (by rw [e3]; decide) (by decide) dX10_deepest_7 (?_ : SdS X 10 [(0, 20), (1, 0)] [0] _)
  refine su_if_ne (tgt := 19) hC dX10_deepest_10 rfl (?_ : SdS X 19 [(0, 20), (1, 0)] [] _) (?_ : SdS X 13 [(0, 20), (1, 0)] [] _)
  · refine su_aload_n hC 20 dX10_deepest_19 rfl (by decide) (by decide) (?_ : SdS X 20 [(0, 20), (1, 0)] [20] _)
    refine su_iload_n hC dX10_deepest_20 rfl (by decide) (?_ : SdS X 21 [(0, 20), (1, 0)] [0, 20] _)
    refine su_iconst hC dX10_deepest_21 ⟨by decide, by decide⟩ (?_ : SdS X 22 [(0, 20), (1, 0)] [0, 0, 20] _)
    refine su_inv0v (τ := []) (τr := [0, 0]) (ci := 10) (q := (RX10, TX10, 45)) hC WG (M_X10_takes _) rfl rfl rfl rfl  rfl rfl wl_7_103 wl_7_105 wp_90 wl_1_10 wl_7_106 hd_X10_takes (by rw [e3]; decide) (by decide) dX10_deepest_22 (?_ : SdS X 25 [(0, 20), (1, 0)] [] _)
    refine su_aload_n hC 20 dX10_deepest_25 rfl (by decide) (by decide) (?_ : SdS X 26 [(0, 20), (1, 0)] [20] _)
    refine su_aload_n hC 20 dX10_deepest_26 rfl (by decide) (by decide) (?_ : SdS X 27 [(0, 20), (1, 0)] [20, 20] _)
    refine su_inv0 (τ := [20]) (τr := []) (ci := 10) (q := (RX10, TX10, 45)) hC WG (M_X10_deepestNow _) rfl rfl rfl rfl  rfl rfl wl_7_211 wl_7_213 wp_109 wl_1_10 wl_7_214 hd_X10_deepestNow (by rw [e3]; decide) (by decide) dX10_deepest_27 (?_ : SdS X 30 [(0, 20), (1, 0)] [0, 20] _)
    refine su_inv0 (τ := []) (τr := [0]) (ci := 10) (q := (RX10, TX10, 45)) hC WG (M_X10_good _) rfl rfl rfl rfl  rfl rfl wl_7_171 wl_7_173 wp_105 wl_1_10 wl_7_174 hd_X10_good (by rw [e3]; decide) (by decide) dX10_deepest_30 (?_ : SdS X 33 [(0, 20), (1, 0)] [0] _)
    exact su_ireturn hC hT dX10_deepest_33
  · refine su_aload_n hC 20 dX10_deepest_13 rfl (by decide) (by decide) (?_ : SdS X 14 [(0, 20), (1, 0)] [20] _)
    refine su_iconst hC dX10_deepest_14 ⟨by decide, by decide⟩ (?_ : SdS X 15 [(0, 20), (1, 0)] [0, 20] _)
    refine su_inv0 (τ := []) (τr := [0]) (ci := 10) (q := (RX10, TX10, 45)) hC WG (M_X10_refused _) rfl rfl rfl rfl  rfl rfl wl_6_72 wl_6_74 wp_63 wl_1_10 wl_6_75 hd_X10_refused (by rw [e3]; decide) (by decide) dX10_deepest_15 (?_ : SdS X 18 [(0, 20), (1, 0)] [0] _)
    exact su_ireturn hC hT dX10_deepest_18
theorem hd_X10_deepestCut : yX10_deepestCut.cls ≠ "java/lang/invoke/MethodHandle" ∧ yX10_deepestCut.cls ≠ "java/lang/invoke/VarHandle" ∧ (parseMethodDescriptor yX10_deepestCut.desc).map (fun d => d.parameters.length) = some 1 := by decide +kernel
set_option maxRecDepth 100000 in
set_option maxHeartbeats 4000000 in
theorem M_X10_deepestCut (l : Launch) : MtS l yX10_deepestCut (Cond.code yX10_deepestCut cX10_deepestCut 2 (some .int) :: WALL) { frames := 5, cells := 0, slots := 0, locals := 113 } [20, 0] (some 0) T_X10_deepestCut := by
  refine MtS.mk (B := E_X10_deepestCut) (by decide +kernel) (by decide) (fun _ _ _ hh => hh) ?_
  intro X Q e1 e2 e3 hC hN hT
  subst e1
  have hC : CF X cX10_deepestCut RX10 WALL := hC
  refine (?_ : SdS X 0 [(0, 20), (1, 0)] [] (E_X10_deepestCut Q))
  unfold E_X10_deepestCut
  refine su_aload_n hC 20 dX10_deepestCut_0 rfl (by decide) (by decide) (?_ : SdS X 1 [(0, 20), (1, 0)] [20] _)
  refine su_iconst hC dX10_deepestCut_1 ⟨by decide, by decide⟩ (?_ : SdS X 2 [(0, 20), (1, 0)] [0, 20] _)
  refine su_putF hC (ci := 10) (j := 0) (C := RX10) (T := TX10) (N := 45) tyX10 tyX10_ok nmX10 rfl rfl (by decide) in_X10 rfl rfl wl_5_164 rfl dX10_deepestCut_2 (?_ : SdS X 5 [(0, 20), (1, 0)] [] _)
  refine su_aload_n hC 20 dX10_deepestCut_5 rfl (by decide) (by decide) (?_ : SdS X 6 [(0, 20), (1, 0)] [20] _)
  refine su_iload_n hC dX10_deepestCut_6 rfl (by decide) (?_ : SdS X 7 [(0, 20), (1, 0)] [0, 20] _)
  refine su_inv0 (τ := []) (τr := [0]) (ci := 10) (q := (RX10, TX10, 45)) hC WG (M_X10_isGood _) rfl rfl rfl rfl  rfl rfl wl_7_195 wl_7_197 wp_107 wl_1_10 wl_7_198 hd_X10_isGood (by rw [e3]; decide) (by decide) dX10_deepestCut_7 (?_ : SdS X 10 [(0, 20), (1, 0)] [0] _)
  refine su_if_ne (tgt := 19) hC dX10_deepestCut_10 rfl (?_ : SdS X 19 [(0, 20), (1, 0)] [] _) (?_ : SdS X 13 [(0, 20), (1, 0)] [] _)
  · refine su_aload_n hC 20 dX10_deepestCut_19 rfl (by decide) (by decide) (?_ : SdS X 20 [(0, 20), (1, 0)] [20] _)
    refine su_iload_n hC dX10_deepestCut_20 rfl (by decide) (?_ : SdS X 21 [(0, 20), (1, 0)] [0, 20] _)
    refine su_inv0 (τ := []) (τr := [0]) (ci := 10) (q := (RX10, TX10, 45)) hC WG (M_X10_canCut _) rfl rfl rfl rfl  rfl rfl wl_7_99 wl_7_101 wp_89 wl_1_10 wl_7_102 hd_X10_canCut (by rw [e3]; decide) (by decide) dX10_deepestCut_21 (?_ : SdS X 24 [(0, 20), (1, 0)] [0] _)
    refine su_if_ne (tgt := 33) hC dX10_deepestCut_24 rfl (?_ : SdS X 33 [(0, 20), (1, 0)] [] _) (?_ : SdS X 27 [(0, 20), (1, 0)] [] _)
    · refine su_aload_n hC 20 dX10_deepestCut_33 rfl (by decide) (by decide) (?_ : SdS X 34 [(0, 20), (1, 0)] [20] _)
      refine su_iload_n hC dX10_deepestCut_34 rfl (by decide) (?_ : SdS X 35 [(0, 20), (1, 0)] [0, 20] _)
      refine su_iconst hC dX10_deepestCut_35 ⟨by decide, by decide⟩ (?_ : SdS X 36 [(0, 20), (1, 0)] [0, 0, 20] _)
      refine su_inv0v (τ := []) (τr := [0, 0]) (ci := 10) (q := (RX10, TX10, 45)) hC WG (M_X10_takes _) rfl rfl rfl rfl  rfl rfl wl_7_103 wl_7_105 wp_90 wl_1_10 wl_7_106 hd_X10_takes (by rw [e3]; decide) (by decide) dX10_deepestCut_36 (?_ : SdS X 39 [(0, 20), (1, 0)] [] _)
      refine su_aload_n hC 20 dX10_deepestCut_39 rfl (by decide) (by decide) (?_ : SdS X 40 [(0, 20), (1, 0)] [20] _)
      refine su_aload_n hC 20 dX10_deepestCut_40 rfl (by decide) (by decide) (?_ : SdS X 41 [(0, 20), (1, 0)] [20, 20] _)
      refine su_inv0 (τ := [20]) (τr := []) (ci := 10) (q := (RX10, TX10, 45)) hC WG (M_X10_deepestNow _) rfl rfl rfl rfl  rfl rfl wl_7_211 wl_7_213 wp_109 wl_1_10 wl_7_214 hd_X10_deepestNow (by rw [e3]; decide) (by decide) dX10_deepestCut_41 (?_ : SdS X 44 [(0, 20), (1, 0)] [0, 20] _)
      refine su_inv0 (τ := []) (τr := [0]) (ci := 10) (q := (RX10, TX10, 45)) hC WG (M_X10_good _) rfl rfl rfl rfl  rfl rfl wl_7_171 wl_7_173 wp_105 wl_1_10 wl_7_174 hd_X10_good (by rw [e3]; decide) (by decide) dX10_deepestCut_44 (?_ : SdS X 47 [(0, 20), (1, 0)] [0] _)
      exact su_ireturn hC hT dX10_deepestCut_47
    · refine su_aload_n hC 20 dX10_deepestCut_27 rfl (by decide) (by decide) (?_ : SdS X 28 [(0, 20), (1, 0)] [20] _)
      refine su_iconst hC dX10_deepestCut_28 ⟨by decide, by decide⟩ (?_ : SdS X 29 [(0, 20), (1, 0)] [0, 20] _)
      refine su_inv0 (τ := []) (τr := [0]) (ci := 10) (q := (RX10, TX10, 45)) hC WG (M_X10_refused _) rfl rfl rfl rfl  rfl rfl wl_6_72 wl_6_74 wp_63 wl_1_10 wl_6_75 hd_X10_refused (by rw [e3]; decide) (by decide) dX10_deepestCut_29 (?_ : SdS X 32 [(0, 20), (1, 0)] [0] _)
      exact su_ireturn hC hT dX10_deepestCut_32
  · refine su_aload_n hC 20 dX10_deepestCut_13 rfl (by decide) (by decide) (?_ : SdS X 14 [(0, 20), (1, 0)] [20] _)
    refine su_iconst hC dX10_deepestCut_14 ⟨by decide, by decide⟩ (?_ : SdS X 15 [(0, 20), (1, 0)] [0, 20] _)
    refine su_inv0 (τ := []) (τr := [0]) (ci := 10) (q := (RX10, TX10, 45)) hC WG (M_X10_refused _) rfl rfl rfl rfl  rfl rfl wl_6_72 wl_6_74 wp_63 wl_1_10 wl_6_75 hd_X10_refused (by rw [e3]; decide) (by decide) dX10_deepestCut_15 (?_ : SdS X 18 [(0, 20), (1, 0)] [0] _)
    exact su_ireturn hC hT dX10_deepestCut_18
theorem hd_X10_dig : yX10_dig.cls ≠ "java/lang/invoke/MethodHandle" ∧ yX10_dig.cls ≠ "java/lang/invoke/VarHandle" ∧ (parseMethodDescriptor yX10_dig.desc).map (fun d => d.parameters.length) = some 6 := by decide +kernel
set_option maxRecDepth 100000 in
set_option maxHeartbeats 4000000 in
theorem M_X10_dig (l : Launch) : MtS l yX10_dig (Cond.code yX10_dig cX10_dig 7 (some .int) :: WALL) { frames := 8, cells := 0, slots := 0, locals := 195 } [20, 0, 0, 0, 0, 0, 0] (some 0) T_X10_dig := by
  refine MtS.mk (B := E_X10_dig) (by decide +kernel) (by decide) (fun _ _ _ hh => hh) ?_
  intro X Q e1 e2 e3 hC hN hT
  subst e1
  have hC : CF X cX10_dig RX10 WALL := hC
  have S_39 : SdS X 39 [(0, 20), (1, 0), (2, 0), (3, 0), (4, 0), (5, 0), (6, 0)] [] (B_X10_dig_39 Q) := by
    unfold B_X10_dig_39
    refine su_aload_n hC 20 dX10_dig_39 rfl (by decide) (by decide) (?_ : SdS X 40 [(0, 20), (1, 0), (2, 0), (3, 0), (4, 0), (5, 0), (6, 0)] [20] _)
    refine su_iconst hC dX10_dig_40 ⟨by decide, by decide⟩ (?_ : SdS X 41 [(0, 20), (1, 0), (2, 0), (3, 0), (4, 0), (5, 0), (6, 0)] [0, 20] _)
    refine su_inv0 (τ := []) (τr := [0]) (ci := 10) (q := (RX10, TX10, 45)) hC WG (M_X10_refused _) rfl rfl rfl rfl  rfl rfl wl_6_72 wl_6_74 wp_63 wl_1_10 wl_6_75 hd_X10_refused (by rw [e3]; decide) (by decide) dX10_dig_41 (?_ : SdS X 44 [(0, 20), (1, 0), (2, 0), (3, 0), (4, 0), (5, 0), (6, 0)] [0] _)
    exact su_ireturn hC hT dX10_dig_44
  have S_82 : SdS X 82 [(0, 20), (1, 0), (2, 0), (3, 0), (4, 0), (5, 0), (6, 0)] [] (B_X10_dig_82 Q) := by
    unfold B_X10_dig_82
    refine su_aload_n hC 20 dX10_dig_82 rfl (by decide) (by decide) (?_ : SdS X 83 [(0, 20), (1, 0), (2, 0), (3, 0), (4, 0), (5, 0), (6, 0)] [20] _)
    refine su_iconst hC dX10_dig_83 ⟨by decide, by decide⟩ (?_ : SdS X 84 [(0, 20), (1, 0), (2, 0), (3, 0), (4, 0), (5, 0), (6, 0)] [0, 20] _)
    refine su_inv0 (τ := []) (τr := [0]) (ci := 10) (q := (RX10, TX10, 45)) hC WG (M_X10_refused _) rfl rfl rfl rfl  rfl rfl wl_6_72 wl_6_74 wp_63 wl_1_10 wl_6_75 hd_X10_refused (by rw [e3]; decide) (by decide) dX10_dig_84 (?_ : SdS X 87 [(0, 20), (1, 0), (2, 0), (3, 0), (4, 0), (5, 0), (6, 0)] [0] _)
    exact su_ireturn hC hT dX10_dig_87
  refine (?_ : SdS X 0 [(0, 20), (1, 0), (2, 0), (3, 0), (4, 0), (5, 0), (6, 0)] [] (E_X10_dig Q))
  unfold E_X10_dig
  refine su_aload_n hC 20 dX10_dig_0 rfl (by decide) (by decide) (?_ : SdS X 1 [(0, 20), (1, 0), (2, 0), (3, 0), (4, 0), (5, 0), (6, 0)] [20] _)
  refine su_iconst hC dX10_dig_1 ⟨by decide, by decide⟩ (?_ : SdS X 2 [(0, 20), (1, 0), (2, 0), (3, 0), (4, 0), (5, 0), (6, 0)] [0, 20] _)
  refine su_putF hC (ci := 10) (j := 0) (C := RX10) (T := TX10) (N := 45) tyX10 tyX10_ok nmX10 rfl rfl (by decide) in_X10 rfl rfl wl_5_164 rfl dX10_dig_2 (?_ : SdS X 5 [(0, 20), (1, 0), (2, 0), (3, 0), (4, 0), (5, 0), (6, 0)] [] _)
  refine su_aload_n hC 20 dX10_dig_5 rfl (by decide) (by decide) (?_ : SdS X 6 [(0, 20), (1, 0), (2, 0), (3, 0), (4, 0), (5, 0), (6, 0)] [20] _)
  refine su_getR hC (ci := 10) (j := 3) (C := RX10) (T := TX10) (N := 45) rfl rfl (by decide) in_X10 wl_5_167 rfl dX10_dig_6 (?_ : SdS X 9 [(0, 20), (1, 0), (2, 0), (3, 0), (4, 0), (5, 0), (6, 0)] [19] _)
  refine su_ifnull (tgt := 39) hC (by decide) dX10_dig_9 rfl (?_ : SdS X 39 [(0, 20), (1, 0), (2, 0), (3, 0), (4, 0), (5, 0), (6, 0)] [] _) (?_ : SdS X 12 [(0, 20), (1, 0), (2, 0), (3, 0), (4, 0), (5, 0), (6, 0)] [] _)
  · exact SdS.weak (by decide) (S_39)
  · refine su_iload_n hC dX10_dig_12 rfl (by decide) (?_ : SdS X 13 [(0, 20), (1, 0), (2, 0), (3, 0), (4, 0), (5, 0), (6, 0)] [0] _)
    refine su_iconst hC dX10_dig_13 ⟨by decide, by decide⟩ (?_ : SdS X 14 [(0, 20), (1, 0), (2, 0), (3, 0), (4, 0), (5, 0), (6, 0)] [0, 0] _)
    refine su_aload_n hC 20 dX10_dig_14 rfl (by decide) (by decide) (?_ : SdS X 15 [(0, 20), (1, 0), (2, 0), (3, 0), (4, 0), (5, 0), (6, 0)] [20, 0, 0] _)
    refine su_getR hC (ci := 10) (j := 3) (C := RX10) (T := TX10) (N := 45) rfl rfl (by decide) in_X10 wl_5_167 rfl dX10_dig_15 (?_ : SdS X 18 [(0, 20), (1, 0), (2, 0), (3, 0), (4, 0), (5, 0), (6, 0)] [19, 0, 0] _)
    refine su_getFN hC (ci := 9) (j := 0) (C := RX9) (T := TX9) (N := 28) (host := "NarrowRingsModel") rfl rfl (by decide) in_X9 (by decide) rfl dX10_dig_18 (?_ : SdS X 21 [(0, 20), (1, 0), (2, 0), (3, 0), (4, 0), (5, 0), (6, 0)] [0, 0, 0] _)
    refine su_iconst hC dX10_dig_21 ⟨by decide, by decide⟩ (?_ : SdS X 22 [(0, 20), (1, 0), (2, 0), (3, 0), (4, 0), (5, 0), (6, 0)] [0, 0, 0, 0] _)
    refine su_isub hC dX10_dig_22 (?_ : SdS X 23 [(0, 20), (1, 0), (2, 0), (3, 0), (4, 0), (5, 0), (6, 0)] [0, 0, 0] _)
    refine su_invs (τ := []) (τs := [0, 0, 0]) hC false "" WG (M_X10_in _) rfl rfl rfl rfl wl_6_238 wl_6_239 wl_1_10 wl_7_0 hd_X10_in (by rw [e3]; decide) (by decide) dX10_dig_23 (?_ : SdS X 26 [(0, 20), (1, 0), (2, 0), (3, 0), (4, 0), (5, 0), (6, 0)] [0] _)
    refine su_if_eq (tgt := 39) hC dX10_dig_26 rfl (?_ : SdS X 39 [(0, 20), (1, 0), (2, 0), (3, 0), (4, 0), (5, 0), (6, 0)] [] _) (?_ : SdS X 29 [(0, 20), (1, 0), (2, 0), (3, 0), (4, 0), (5, 0), (6, 0)] [] _)
    · exact SdS.weak (by decide) (S_39)
    · refine su_iload_n hC dX10_dig_29 rfl (by decide) (?_ : SdS X 30 [(0, 20), (1, 0), (2, 0), (3, 0), (4, 0), (5, 0), (6, 0)] [0] _)
      refine su_iconst hC dX10_dig_30 ⟨by decide, by decide⟩ (?_ : SdS X 31 [(0, 20), (1, 0), (2, 0), (3, 0), (4, 0), (5, 0), (6, 0)] [0, 0] _)
      refine su_bipush hC dX10_dig_31 (by decide) (?_ : SdS X 33 [(0, 20), (1, 0), (2, 0), (3, 0), (4, 0), (5, 0), (6, 0)] [0, 0, 0] _)
      refine su_invs (τ := []) (τs := [0, 0, 0]) hC false "" WG (M_X10_in _) rfl rfl rfl rfl wl_6_238 wl_6_239 wl_1_10 wl_7_0 hd_X10_in (by rw [e3]; decide) (by decide) dX10_dig_33 (?_ : SdS X 36 [(0, 20), (1, 0), (2, 0), (3, 0), (4, 0), (5, 0), (6, 0)] [0] _)
      refine su_if_ne (tgt := 45) hC dX10_dig_36 rfl (?_ : SdS X 45 [(0, 20), (1, 0), (2, 0), (3, 0), (4, 0), (5, 0), (6, 0)] [] _) (?_ : SdS X 39 [(0, 20), (1, 0), (2, 0), (3, 0), (4, 0), (5, 0), (6, 0)] [] _)
      · refine su_iload_n hC dX10_dig_45 rfl (by decide) (?_ : SdS X 46 [(0, 20), (1, 0), (2, 0), (3, 0), (4, 0), (5, 0), (6, 0)] [0] _)
        refine su_invs (τ := []) (τs := [0]) hC false "" WG (M_X10_isSize _) rfl rfl rfl rfl wl_8_119 wl_8_120 wl_1_10 wl_8_121 hd_X10_isSize (by rw [e3]; decide) (by decide) dX10_dig_46 (?_ : SdS X 49 [(0, 20), (1, 0), (2, 0), (3, 0), (4, 0), (5, 0), (6, 0)] [0] _)
        refine su_if_eq (tgt := 82) hC dX10_dig_49 rfl (?_ : SdS X 82 [(0, 20), (1, 0), (2, 0), (3, 0), (4, 0), (5, 0), (6, 0)] [] _) (?_ : SdS X 52 [(0, 20), (1, 0), (2, 0), (3, 0), (4, 0), (5, 0), (6, 0)] [] _)
        · exact SdS.weak (by decide) (S_82)
        · refine su_iload hC dX10_dig_52 (by decide) (?_ : SdS X 54 [(0, 20), (1, 0), (2, 0), (3, 0), (4, 0), (5, 0), (6, 0)] [0] _)
          refine su_invs (τ := []) (τs := [0]) hC false "" WG (M_X10_isSize _) rfl rfl rfl rfl wl_8_119 wl_8_120 wl_1_10 wl_8_121 hd_X10_isSize (by rw [e3]; decide) (by decide) dX10_dig_54 (?_ : SdS X 57 [(0, 20), (1, 0), (2, 0), (3, 0), (4, 0), (5, 0), (6, 0)] [0] _)
          refine su_if_eq (tgt := 82) hC dX10_dig_57 rfl (?_ : SdS X 82 [(0, 20), (1, 0), (2, 0), (3, 0), (4, 0), (5, 0), (6, 0)] [] _) (?_ : SdS X 60 [(0, 20), (1, 0), (2, 0), (3, 0), (4, 0), (5, 0), (6, 0)] [] _)
          · exact SdS.weak (by decide) (S_82)
          · refine su_iload hC dX10_dig_60 (by decide) (?_ : SdS X 62 [(0, 20), (1, 0), (2, 0), (3, 0), (4, 0), (5, 0), (6, 0)] [0] _)
            refine su_iconst hC dX10_dig_62 ⟨by decide, by decide⟩ (?_ : SdS X 63 [(0, 20), (1, 0), (2, 0), (3, 0), (4, 0), (5, 0), (6, 0)] [0, 0] _)
            refine su_bipush hC dX10_dig_63 (by decide) (?_ : SdS X 65 [(0, 20), (1, 0), (2, 0), (3, 0), (4, 0), (5, 0), (6, 0)] [0, 0, 0] _)
            refine su_invs (τ := []) (τs := [0, 0, 0]) hC false "" WG (M_X10_in _) rfl rfl rfl rfl wl_6_238 wl_6_239 wl_1_10 wl_7_0 hd_X10_in (by rw [e3]; decide) (by decide) dX10_dig_65 (?_ : SdS X 68 [(0, 20), (1, 0), (2, 0), (3, 0), (4, 0), (5, 0), (6, 0)] [0] _)
            refine su_if_eq (tgt := 82) hC dX10_dig_68 rfl (?_ : SdS X 82 [(0, 20), (1, 0), (2, 0), (3, 0), (4, 0), (5, 0), (6, 0)] [] _) (?_ : SdS X 71 [(0, 20), (1, 0), (2, 0), (3, 0), (4, 0), (5, 0), (6, 0)] [] _)
            · exact SdS.weak (by decide) (S_82)
            · refine su_iload hC dX10_dig_71 (by decide) (?_ : SdS X 73 [(0, 20), (1, 0), (2, 0), (3, 0), (4, 0), (5, 0), (6, 0)] [0] _)
              refine su_iconst hC dX10_dig_73 ⟨by decide, by decide⟩ (?_ : SdS X 74 [(0, 20), (1, 0), (2, 0), (3, 0), (4, 0), (5, 0), (6, 0)] [0, 0] _)
              refine su_bipush hC dX10_dig_74 (by decide) (?_ : SdS X 76 [(0, 20), (1, 0), (2, 0), (3, 0), (4, 0), (5, 0), (6, 0)] [0, 0, 0] _)
              refine su_invs (τ := []) (τs := [0, 0, 0]) hC false "" WG (M_X10_in _) rfl rfl rfl rfl wl_6_238 wl_6_239 wl_1_10 wl_7_0 hd_X10_in (by rw [e3]; decide) (by decide) dX10_dig_76 (?_ : SdS X 79 [(0, 20), (1, 0), (2, 0), (3, 0), (4, 0), (5, 0), (6, 0)] [0] _)
              refine su_if_ne (tgt := 88) hC dX10_dig_79 rfl (?_ : SdS X 88 [(0, 20), (1, 0), (2, 0), (3, 0), (4, 0), (5, 0), (6, 0)] [] _) (?_ : SdS X 82 [(0, 20), (1, 0), (2, 0), (3, 0), (4, 0), (5, 0), (6, 0)] [] _)
              · refine su_aload_n hC 20 dX10_dig_88 rfl (by decide) (by decide) (?_ : SdS X 89 [(0, 20), (1, 0), (2, 0), (3, 0), (4, 0), (5, 0), (6, 0)] [20] _)
                refine su_getF hC (ci := 10) (j := 17) (C := RX10) (T := TX10) (N := 45) rfl rfl (by decide) in_X10 wl_5_181 rfl dX10_dig_89 (?_ : SdS X 92 [(0, 20), (1, 0), (2, 0), (3, 0), (4, 0), (5, 0), (6, 0)] [0] _)
                refine su_bipush hC dX10_dig_92 (by decide) (?_ : SdS X 94 [(0, 20), (1, 0), (2, 0), (3, 0), (4, 0), (5, 0), (6, 0)] [0, 0] _)
                refine su_icmp_ne (tgt := 103) hC dX10_dig_94 rfl (?_ : SdS X 103 [(0, 20), (1, 0), (2, 0), (3, 0), (4, 0), (5, 0), (6, 0)] [] _) (?_ : SdS X 97 [(0, 20), (1, 0), (2, 0), (3, 0), (4, 0), (5, 0), (6, 0)] [] _)
                · refine su_aload_n hC 20 dX10_dig_103 rfl (by decide) (by decide) (?_ : SdS X 104 [(0, 20), (1, 0), (2, 0), (3, 0), (4, 0), (5, 0), (6, 0)] [20] _)
                  refine su_inv0v (τ := []) (τr := []) (ci := 10) (q := (RX10, TX10, 45)) hC WG (M_X10_keeps _) rfl rfl rfl rfl  rfl rfl wl_8_170 wl_8_172 wp_130 wl_1_10 wl_8_173 hd_X10_keeps (by rw [e3]; decide) (by decide) dX10_dig_104 (?_ : SdS X 107 [(0, 20), (1, 0), (2, 0), (3, 0), (4, 0), (5, 0), (6, 0)] [] _)
                  refine su_aload_n hC 20 dX10_dig_107 rfl (by decide) (by decide) (?_ : SdS X 108 [(0, 20), (1, 0), (2, 0), (3, 0), (4, 0), (5, 0), (6, 0)] [20] _)
                  refine su_getR hC (ci := 10) (j := 16) (C := RX10) (T := TX10) (N := 45) rfl rfl (by decide) in_X10 wl_5_180 rfl dX10_dig_108 (?_ : SdS X 111 [(0, 20), (1, 0), (2, 0), (3, 0), (4, 0), (5, 0), (6, 0)] [100] _)
                  refine su_aload_n hC 20 dX10_dig_111 rfl (by decide) (by decide) (?_ : SdS X 112 [(0, 20), (1, 0), (2, 0), (3, 0), (4, 0), (5, 0), (6, 0)] [20, 100] _)
                  refine su_getF hC (ci := 10) (j := 17) (C := RX10) (T := TX10) (N := 45) rfl rfl (by decide) in_X10 wl_5_181 rfl dX10_dig_112 (?_ : SdS X 115 [(0, 20), (1, 0), (2, 0), (3, 0), (4, 0), (5, 0), (6, 0)] [0, 100] _)
                  refine su_iload_n hC dX10_dig_115 rfl (by decide) (?_ : SdS X 116 [(0, 20), (1, 0), (2, 0), (3, 0), (4, 0), (5, 0), (6, 0)] [0, 0, 100] _)
                  refine su_iload_n hC dX10_dig_116 rfl (by decide) (?_ : SdS X 117 [(0, 20), (1, 0), (2, 0), (3, 0), (4, 0), (5, 0), (6, 0)] [0, 0, 0, 100] _)
                  refine su_iload_n hC dX10_dig_117 rfl (by decide) (?_ : SdS X 118 [(0, 20), (1, 0), (2, 0), (3, 0), (4, 0), (5, 0), (6, 0)] [0, 0, 0, 0, 100] _)
                  refine su_iload hC dX10_dig_118 (by decide) (?_ : SdS X 120 [(0, 20), (1, 0), (2, 0), (3, 0), (4, 0), (5, 0), (6, 0)] [0, 0, 0, 0, 0, 100] _)
                  refine su_iload hC dX10_dig_120 (by decide) (?_ : SdS X 122 [(0, 20), (1, 0), (2, 0), (3, 0), (4, 0), (5, 0), (6, 0)] [0, 0, 0, 0, 0, 0, 100] _)
                  refine su_iload hC dX10_dig_122 (by decide) (?_ : SdS X 124 [(0, 20), (1, 0), (2, 0), (3, 0), (4, 0), (5, 0), (6, 0)] [0, 0, 0, 0, 0, 0, 0, 100] _)
                  refine su_invsv (τ := []) (τs := [100, 0, 0, 0, 0, 0, 0, 0]) hC false "" WG (M_X10_sets _) rfl rfl rfl rfl wl_7_51 wl_7_52 wl_1_10 wl_7_53 hd_X10_sets (by rw [e3]; decide) (by decide) dX10_dig_124 (?_ : SdS X 127 [(0, 20), (1, 0), (2, 0), (3, 0), (4, 0), (5, 0), (6, 0)] [] _)
                  refine su_aload_n hC 20 dX10_dig_127 rfl (by decide) (by decide) (?_ : SdS X 128 [(0, 20), (1, 0), (2, 0), (3, 0), (4, 0), (5, 0), (6, 0)] [20] _)
                  refine su_dup hC (by decide) dX10_dig_128 (?_ : SdS X 129 [(0, 20), (1, 0), (2, 0), (3, 0), (4, 0), (5, 0), (6, 0)] [20, 20] _)
                  refine su_getF hC (ci := 10) (j := 17) (C := RX10) (T := TX10) (N := 45) rfl rfl (by decide) in_X10 wl_5_181 rfl dX10_dig_129 (?_ : SdS X 132 [(0, 20), (1, 0), (2, 0), (3, 0), (4, 0), (5, 0), (6, 0)] [0, 20] _)
                  refine su_iconst hC dX10_dig_132 ⟨by decide, by decide⟩ (?_ : SdS X 133 [(0, 20), (1, 0), (2, 0), (3, 0), (4, 0), (5, 0), (6, 0)] [0, 0, 20] _)
                  refine su_iadd hC dX10_dig_133 (?_ : SdS X 134 [(0, 20), (1, 0), (2, 0), (3, 0), (4, 0), (5, 0), (6, 0)] [0, 20] _)
                  refine su_putF hC (ci := 10) (j := 17) (C := RX10) (T := TX10) (N := 45) tyX10 tyX10_ok nmX10 rfl rfl (by decide) in_X10 rfl rfl wl_5_181 rfl dX10_dig_134 (?_ : SdS X 137 [(0, 20), (1, 0), (2, 0), (3, 0), (4, 0), (5, 0), (6, 0)] [] _)
                  refine su_aload_n hC 20 dX10_dig_137 rfl (by decide) (by decide) (?_ : SdS X 138 [(0, 20), (1, 0), (2, 0), (3, 0), (4, 0), (5, 0), (6, 0)] [20] _)
                  refine su_inv0v (τ := []) (τr := []) (ci := 10) (q := (RX10, TX10, 45)) hC WG (M_X10_dawns _) rfl rfl rfl rfl  rfl rfl wl_7_87 wl_7_89 wp_86 wl_1_10 wl_7_90 hd_X10_dawns (by rw [e3]; decide) (by decide) dX10_dig_138 (?_ : SdS X 141 [(0, 20), (1, 0), (2, 0), (3, 0), (4, 0), (5, 0), (6, 0)] [] _)
                  refine su_aload_n hC 20 dX10_dig_141 rfl (by decide) (by decide) (?_ : SdS X 142 [(0, 20), (1, 0), (2, 0), (3, 0), (4, 0), (5, 0), (6, 0)] [20] _)
                  refine su_aload_n hC 20 dX10_dig_142 rfl (by decide) (by decide) (?_ : SdS X 143 [(0, 20), (1, 0), (2, 0), (3, 0), (4, 0), (5, 0), (6, 0)] [20, 20] _)
                  refine su_getF hC (ci := 10) (j := 17) (C := RX10) (T := TX10) (N := 45) rfl rfl (by decide) in_X10 wl_5_181 rfl dX10_dig_143 (?_ : SdS X 146 [(0, 20), (1, 0), (2, 0), (3, 0), (4, 0), (5, 0), (6, 0)] [0, 20] _)
                  refine su_iconst hC dX10_dig_146 ⟨by decide, by decide⟩ (?_ : SdS X 147 [(0, 20), (1, 0), (2, 0), (3, 0), (4, 0), (5, 0), (6, 0)] [0, 0, 20] _)
                  refine su_isub hC dX10_dig_147 (?_ : SdS X 148 [(0, 20), (1, 0), (2, 0), (3, 0), (4, 0), (5, 0), (6, 0)] [0, 20] _)
                  refine su_inv0 (τ := []) (τr := [0]) (ci := 10) (q := (RX10, TX10, 45)) hC WG (M_X10_good _) rfl rfl rfl rfl  rfl rfl wl_7_171 wl_7_173 wp_105 wl_1_10 wl_7_174 hd_X10_good (by rw [e3]; decide) (by decide) dX10_dig_148 (?_ : SdS X 151 [(0, 20), (1, 0), (2, 0), (3, 0), (4, 0), (5, 0), (6, 0)] [0] _)
                  exact su_ireturn hC hT dX10_dig_151
                · refine su_aload_n hC 20 dX10_dig_97 rfl (by decide) (by decide) (?_ : SdS X 98 [(0, 20), (1, 0), (2, 0), (3, 0), (4, 0), (5, 0), (6, 0)] [20] _)
                  refine su_iconst hC dX10_dig_98 ⟨by decide, by decide⟩ (?_ : SdS X 99 [(0, 20), (1, 0), (2, 0), (3, 0), (4, 0), (5, 0), (6, 0)] [0, 20] _)
                  refine su_inv0 (τ := []) (τr := [0]) (ci := 10) (q := (RX10, TX10, 45)) hC WG (M_X10_refused _) rfl rfl rfl rfl  rfl rfl wl_6_72 wl_6_74 wp_63 wl_1_10 wl_6_75 hd_X10_refused (by rw [e3]; decide) (by decide) dX10_dig_99 (?_ : SdS X 102 [(0, 20), (1, 0), (2, 0), (3, 0), (4, 0), (5, 0), (6, 0)] [0] _)
                  exact su_ireturn hC hT dX10_dig_102
              · exact SdS.weak (by decide) (S_82)
      · exact SdS.weak (by decide) (S_39)
theorem hd_X10_placeNext : yX10_placeNext.cls ≠ "java/lang/invoke/MethodHandle" ∧ yX10_placeNext.cls ≠ "java/lang/invoke/VarHandle" ∧ (parseMethodDescriptor yX10_placeNext.desc).map (fun d => d.parameters.length) = some 1 := by decide +kernel
set_option maxRecDepth 100000 in
set_option maxHeartbeats 4000000 in
theorem M_X10_placeNext (l : Launch) : MtS l yX10_placeNext (Cond.code yX10_placeNext cX10_placeNext 2 (some .int) :: WALL) { frames := 1, cells := 0, slots := 0, locals := 22 } [20, 0] (some 0) T_X10_placeNext := by
  refine MtS.mk (B := E_X10_placeNext) (by decide +kernel) (by decide) (fun _ _ _ hh => hh) ?_
  intro X Q e1 e2 e3 hC hN hT
  subst e1
  have hC : CF X cX10_placeNext RX10 WALL := hC
  have S_35 : SdS X 35 [(0, 20), (1, 0)] [0] (B_X10_placeNext_35 Q) := by
    unfold B_X10_placeNext_35
    exact su_ireturn hC hT dX10_placeNext_35
  refine (?_ : SdS X 0 [(0, 20), (1, 0)] [] (E_X10_placeNext Q))
  unfold E_X10_placeNext
  refine su_aload_n hC 20 dX10_placeNext_0 rfl (by decide) (by decide) (?_ : SdS X 1 [(0, 20), (1, 0)] [20] _)
  refine su_iload_n hC dX10_placeNext_1 rfl (by decide) (?_ : SdS X 2 [(0, 20), (1, 0)] [0, 20] _)
  refine su_inv0 (τ := []) (τr := [0]) (ci := 10) (q := (RX10, TX10, 45)) hC WG (M_X10_isAtEnd _) rfl rfl rfl rfl  rfl rfl wl_8_39 wl_8_41 wp_117 wl_1_10 wl_8_42 hd_X10_isAtEnd (by rw [e3]; decide) (by decide) dX10_placeNext_2 (?_ : SdS X 5 [(0, 20), (1, 0)] [0] _)
  refine su_if_eq (tgt := 25) hC dX10_placeNext_5 rfl (?_ : SdS X 25 [(0, 20), (1, 0)] [] _) (?_ : SdS X 8 [(0, 20), (1, 0)] [] _)
  · refine su_aload_n hC 20 dX10_placeNext_25 rfl (by decide) (by decide) (?_ : SdS X 26 [(0, 20), (1, 0)] [20] _)
    refine su_aload_n hC 20 dX10_placeNext_26 rfl (by decide) (by decide) (?_ : SdS X 27 [(0, 20), (1, 0)] [20, 20] _)
    refine su_iload_n hC dX10_placeNext_27 rfl (by decide) (?_ : SdS X 28 [(0, 20), (1, 0)] [0, 20, 20] _)
    refine su_inv0 (τ := [20]) (τr := [0]) (ci := 10) (q := (RX10, TX10, 45)) hC WG (M_X10_gateNext _) rfl rfl rfl rfl  rfl rfl wl_8_43 wl_8_45 wp_118 wl_1_10 wl_8_46 hd_X10_gateNext (by rw [e3]; decide) (by decide) dX10_placeNext_28 (?_ : SdS X 31 [(0, 20), (1, 0)] [0, 20] _)
    refine su_iconst hC dX10_placeNext_31 ⟨by decide, by decide⟩ (?_ : SdS X 32 [(0, 20), (1, 0)] [0, 0, 20] _)
    refine su_inv0 (τ := []) (τr := [0, 0]) (ci := 10) (q := (RX10, TX10, 45)) hC WG (M_X10_of _) rfl rfl rfl rfl  rfl rfl wl_7_131 wl_7_133 wp_96 wl_1_10 wl_7_134 hd_X10_of (by rw [e3]; decide) (by decide) dX10_placeNext_32 (?_ : SdS X 35 [(0, 20), (1, 0)] [0] _)
    exact SdS.weak (by decide) (S_35)
  · refine su_aload_n hC 20 dX10_placeNext_8 rfl (by decide) (by decide) (?_ : SdS X 9 [(0, 20), (1, 0)] [20] _)
    refine su_getR hC (ci := 10) (j := 3) (C := RX10) (T := TX10) (N := 45) rfl rfl (by decide) in_X10 wl_5_167 rfl dX10_placeNext_9 (?_ : SdS X 12 [(0, 20), (1, 0)] [19] _)
    refine su_getRN hC (ci := 9) (j := 24) (C := RX9) (T := TX9) (N := 28) (host := "NarrowRingsModel") rfl rfl (by decide) in_X9 (by decide) rfl dX10_placeNext_12 (?_ : SdS X 15 [(0, 20), (1, 0)] [100] _)
    refine su_aload_n hC 20 dX10_placeNext_15 rfl (by decide) (by decide) (?_ : SdS X 16 [(0, 20), (1, 0)] [20, 100] _)
    refine su_getR hC (ci := 10) (j := 34) (C := RX10) (T := TX10) (N := 45) rfl rfl (by decide) in_X10 wl_5_198 rfl dX10_placeNext_16 (?_ : SdS X 19 [(0, 20), (1, 0)] [100, 100] _)
    refine su_iload_n hC dX10_placeNext_19 rfl (by decide) (?_ : SdS X 20 [(0, 20), (1, 0)] [0, 100, 100] _)
    refine su_iaload hC dX10_placeNext_20 (?_ : SdS X 21 [(0, 20), (1, 0)] [0, 100] _)
    refine su_iaload hC dX10_placeNext_21 (?_ : SdS X 22 [(0, 20), (1, 0)] [0] _)
    refine su_goto (tgt := 35) hC dX10_placeNext_22 rfl (?_ : SdS X 35 [(0, 20), (1, 0)] [0] _)
    exact SdS.weak (by decide) (S_35)
theorem wl_8_35 : Cond.methodLink RX10 480 yX10_placeNext ∈ WALL := tb8 (List.mem_of_getElem? (i := 35) rfl) rfl
theorem wl_8_37 : Cond.instanceMethod yX10_placeNext ∈ WALL := tb8 (List.mem_of_getElem? (i := 37) rfl) rfl
theorem wp_116 : Cond.selects RX10 yX10_placeNext yX10_placeNext ∈ WALL := tbS (List.mem_of_getElem? (i := 116) rfl)
theorem wl_8_38 : Cond.code yX10_placeNext cX10_placeNext 2 (some .int) ∈ WALL := tb8 (List.mem_of_getElem? (i := 38) rfl) rfl
theorem wl_8_47 : Cond.methodLink RX10 483 yX10_comes ∈ WALL := tb8 (List.mem_of_getElem? (i := 47) rfl) rfl
theorem wl_8_49 : Cond.instanceMethod yX10_comes ∈ WALL := tb8 (List.mem_of_getElem? (i := 49) rfl) rfl
theorem wp_119 : Cond.selects RX10 yX10_comes yX10_comes ∈ WALL := tbS (List.mem_of_getElem? (i := 119) rfl)
theorem wl_8_50 : Cond.code yX10_comes cX10_comes 3 none ∈ WALL := tb8 (List.mem_of_getElem? (i := 50) rfl) rfl
theorem hd_X10_drives : yX10_drives.cls ≠ "java/lang/invoke/MethodHandle" ∧ yX10_drives.cls ≠ "java/lang/invoke/VarHandle" ∧ (parseMethodDescriptor yX10_drives.desc).map (fun d => d.parameters.length) = some 1 := by decide +kernel
set_option maxRecDepth 100000 in
set_option maxHeartbeats 4000000 in
theorem M_X10_drives (l : Launch) : MtS l yX10_drives (Cond.code yX10_drives cX10_drives 4 none :: WALL) { frames := 2, cells := 0, slots := 0, locals := 43 } [20, 0] none T_X10_drives := by
  refine MtS.mk (B := E_X10_drives) (by decide +kernel) (by decide) (fun _ _ _ hh => hh) ?_
  intro X Q e1 e2 e3 hC hN hT
  subst e1
  have hC : CF X cX10_drives RX10 WALL := hC
  have S_147 : ∀ (k42 : xK), SdS X 42 [(0, 20), (1, 0), (2, 0), (3, 0)] [] k42 → SdS X 147 [(0, 20), (1, 0), (2, 0), (3, 0)] [] (B_X10_drives_147 Q k42) := by
    intro k42 h42
    unfold B_X10_drives_147
    refine su_iinc (Γ' := [(0, 20), (1, 0), (2, 0), (3, 0)]) hC dX10_drives_147 (by decide) (by rw [e2]; decide) (by decide) (?_ : SdS X 150 [(0, 20), (1, 0), (2, 0), (3, 0)] [] _)
    refine su_goto (tgt := 42) hC dX10_drives_150 rfl (?_ : SdS X 42 [(0, 20), (1, 0), (2, 0), (3, 0)] [] _)
    exact SdS.weak (by decide) h42
  have S_42 : SdS X 42 [(0, 20), (1, 0), (2, 0), (3, 0)] [] (L_X10_drives_42 Q) := by
    unfold L_X10_drives_42
    refine SdS.loop (fun k42 h42 => ?_)
    refine su_iload_n hC dX10_drives_42 rfl (by decide) (?_ : SdS X 43 [(0, 20), (1, 0), (2, 0), (3, 0)] [0] _)
    refine su_aload_n hC 20 dX10_drives_43 rfl (by decide) (by decide) (?_ : SdS X 44 [(0, 20), (1, 0), (2, 0), (3, 0)] [20, 0] _)
    refine su_getR hC (ci := 10) (j := 3) (C := RX10) (T := TX10) (N := 45) rfl rfl (by decide) in_X10 wl_5_167 rfl dX10_drives_44 (?_ : SdS X 47 [(0, 20), (1, 0), (2, 0), (3, 0)] [19, 0] _)
    refine su_getFN hC (ci := 9) (j := 2) (C := RX9) (T := TX9) (N := 28) (host := "NarrowRingsModel") rfl rfl (by decide) in_X9 (by decide) rfl dX10_drives_47 (?_ : SdS X 50 [(0, 20), (1, 0), (2, 0), (3, 0)] [0, 0] _)
    refine su_icmp_ge (tgt := 153) hC dX10_drives_50 rfl (?_ : SdS X 153 [(0, 20), (1, 0), (2, 0), (3, 0)] [] _) (?_ : SdS X 53 [(0, 20), (1, 0), (2, 0), (3, 0)] [] _)
    · exact su_return hC hT dX10_drives_153
    · refine su_aload_n hC 20 dX10_drives_53 rfl (by decide) (by decide) (?_ : SdS X 54 [(0, 20), (1, 0), (2, 0), (3, 0)] [20] _)
      refine su_getR hC (ci := 10) (j := 3) (C := RX10) (T := TX10) (N := 45) rfl rfl (by decide) in_X10 wl_5_167 rfl dX10_drives_54 (?_ : SdS X 57 [(0, 20), (1, 0), (2, 0), (3, 0)] [19] _)
      refine su_getRN hC (ci := 9) (j := 13) (C := RX9) (T := TX9) (N := 28) (host := "NarrowRingsModel") rfl rfl (by decide) in_X9 (by decide) rfl dX10_drives_57 (?_ : SdS X 60 [(0, 20), (1, 0), (2, 0), (3, 0)] [100] _)
      refine su_iload_n hC dX10_drives_60 rfl (by decide) (?_ : SdS X 61 [(0, 20), (1, 0), (2, 0), (3, 0)] [0, 100] _)
      refine su_iaload hC dX10_drives_61 (?_ : SdS X 62 [(0, 20), (1, 0), (2, 0), (3, 0)] [0] _)
      refine su_aload_n hC 20 dX10_drives_62 rfl (by decide) (by decide) (?_ : SdS X 63 [(0, 20), (1, 0), (2, 0), (3, 0)] [20, 0] _)
      refine su_getR hC (ci := 10) (j := 32) (C := RX10) (T := TX10) (N := 45) rfl rfl (by decide) in_X10 wl_5_196 rfl dX10_drives_63 (?_ : SdS X 66 [(0, 20), (1, 0), (2, 0), (3, 0)] [100, 0] _)
      refine su_iload_n hC dX10_drives_66 rfl (by decide) (?_ : SdS X 67 [(0, 20), (1, 0), (2, 0), (3, 0)] [0, 100, 0] _)
      refine su_iconst hC dX10_drives_67 ⟨by decide, by decide⟩ (?_ : SdS X 68 [(0, 20), (1, 0), (2, 0), (3, 0)] [0, 0, 100, 0] _)
      refine su_iadd hC dX10_drives_68 (?_ : SdS X 69 [(0, 20), (1, 0), (2, 0), (3, 0)] [0, 100, 0] _)
      refine su_iaload hC dX10_drives_69 (?_ : SdS X 70 [(0, 20), (1, 0), (2, 0), (3, 0)] [0, 0] _)
      refine su_icmp_ne (tgt := 147) hC dX10_drives_70 rfl (?_ : SdS X 147 [(0, 20), (1, 0), (2, 0), (3, 0)] [] _) (?_ : SdS X 73 [(0, 20), (1, 0), (2, 0), (3, 0)] [] _)
      · exact SdS.weak (by decide) (S_147 k42 h42)
      · refine su_aload_n hC 20 dX10_drives_73 rfl (by decide) (by decide) (?_ : SdS X 74 [(0, 20), (1, 0), (2, 0), (3, 0)] [20] _)
        refine su_getR hC (ci := 10) (j := 3) (C := RX10) (T := TX10) (N := 45) rfl rfl (by decide) in_X10 wl_5_167 rfl dX10_drives_74 (?_ : SdS X 77 [(0, 20), (1, 0), (2, 0), (3, 0)] [19] _)
        refine su_getRN hC (ci := 9) (j := 14) (C := RX9) (T := TX9) (N := 28) (host := "NarrowRingsModel") rfl rfl (by decide) in_X9 (by decide) rfl dX10_drives_77 (?_ : SdS X 80 [(0, 20), (1, 0), (2, 0), (3, 0)] [100] _)
        refine su_iload_n hC dX10_drives_80 rfl (by decide) (?_ : SdS X 81 [(0, 20), (1, 0), (2, 0), (3, 0)] [0, 100] _)
        refine su_iaload hC dX10_drives_81 (?_ : SdS X 82 [(0, 20), (1, 0), (2, 0), (3, 0)] [0] _)
        refine su_aload_n hC 20 dX10_drives_82 rfl (by decide) (by decide) (?_ : SdS X 83 [(0, 20), (1, 0), (2, 0), (3, 0)] [20, 0] _)
        refine su_getR hC (ci := 10) (j := 35) (C := RX10) (T := TX10) (N := 45) rfl rfl (by decide) in_X10 wl_5_199 rfl dX10_drives_83 (?_ : SdS X 86 [(0, 20), (1, 0), (2, 0), (3, 0)] [100, 0] _)
        refine su_iload_n hC dX10_drives_86 rfl (by decide) (?_ : SdS X 87 [(0, 20), (1, 0), (2, 0), (3, 0)] [0, 100, 0] _)
        refine su_iaload hC dX10_drives_87 (?_ : SdS X 88 [(0, 20), (1, 0), (2, 0), (3, 0)] [0, 0] _)
        refine su_icmp_lt (tgt := 147) hC dX10_drives_88 rfl (?_ : SdS X 147 [(0, 20), (1, 0), (2, 0), (3, 0)] [] _) (?_ : SdS X 91 [(0, 20), (1, 0), (2, 0), (3, 0)] [] _)
        · exact SdS.weak (by decide) (S_147 k42 h42)
        · refine su_aload_n hC 20 dX10_drives_91 rfl (by decide) (by decide) (?_ : SdS X 92 [(0, 20), (1, 0), (2, 0), (3, 0)] [20] _)
          refine su_iload_n hC dX10_drives_92 rfl (by decide) (?_ : SdS X 93 [(0, 20), (1, 0), (2, 0), (3, 0)] [0, 20] _)
          refine su_inv0 (τ := []) (τr := [0]) (ci := 10) (q := (RX10, TX10, 45)) hC WG (M_X10_on _) rfl rfl rfl rfl  rfl rfl wl_8_63 wl_8_65 wp_123 wl_1_10 wl_8_66 hd_X10_on (by rw [e3]; decide) (by decide) dX10_drives_93 (?_ : SdS X 96 [(0, 20), (1, 0), (2, 0), (3, 0)] [0] _)
          refine su_bipush hC dX10_drives_96 (by decide) (?_ : SdS X 98 [(0, 20), (1, 0), (2, 0), (3, 0)] [0, 0] _)
          refine su_icmp_eq (tgt := 104) hC dX10_drives_98 rfl (?_ : SdS X 104 [(0, 20), (1, 0), (2, 0), (3, 0)] [] _) (?_ : SdS X 101 [(0, 20), (1, 0), (2, 0), (3, 0)] [] _)
          · refine su_aload_n hC 20 dX10_drives_104 rfl (by decide) (by decide) (?_ : SdS X 105 [(0, 20), (1, 0), (2, 0), (3, 0)] [20] _)
            refine su_getR hC (ci := 10) (j := 32) (C := RX10) (T := TX10) (N := 45) rfl rfl (by decide) in_X10 wl_5_196 rfl dX10_drives_105 (?_ : SdS X 108 [(0, 20), (1, 0), (2, 0), (3, 0)] [100] _)
            refine su_iload_n hC dX10_drives_108 rfl (by decide) (?_ : SdS X 109 [(0, 20), (1, 0), (2, 0), (3, 0)] [0, 100] _)
            refine su_iconst hC dX10_drives_109 ⟨by decide, by decide⟩ (?_ : SdS X 110 [(0, 20), (1, 0), (2, 0), (3, 0)] [0, 0, 100] _)
            refine su_iadd hC dX10_drives_110 (?_ : SdS X 111 [(0, 20), (1, 0), (2, 0), (3, 0)] [0, 100] _)
            refine su_iload_n hC dX10_drives_111 rfl (by decide) (?_ : SdS X 112 [(0, 20), (1, 0), (2, 0), (3, 0)] [0, 0, 100] _)
            refine su_iastore hC dX10_drives_112 (?_ : SdS X 113 [(0, 20), (1, 0), (2, 0), (3, 0)] [] _)
            refine su_aload_n hC 20 dX10_drives_113 rfl (by decide) (by decide) (?_ : SdS X 114 [(0, 20), (1, 0), (2, 0), (3, 0)] [20] _)
            refine su_getR hC (ci := 10) (j := 32) (C := RX10) (T := TX10) (N := 45) rfl rfl (by decide) in_X10 wl_5_196 rfl dX10_drives_114 (?_ : SdS X 117 [(0, 20), (1, 0), (2, 0), (3, 0)] [100] _)
            refine su_iload_n hC dX10_drives_117 rfl (by decide) (?_ : SdS X 118 [(0, 20), (1, 0), (2, 0), (3, 0)] [0, 100] _)
            refine su_iconst hC dX10_drives_118 ⟨by decide, by decide⟩ (?_ : SdS X 119 [(0, 20), (1, 0), (2, 0), (3, 0)] [0, 0, 100] _)
            refine su_iadd hC dX10_drives_119 (?_ : SdS X 120 [(0, 20), (1, 0), (2, 0), (3, 0)] [0, 100] _)
            refine su_iconst hC dX10_drives_120 ⟨by decide, by decide⟩ (?_ : SdS X 121 [(0, 20), (1, 0), (2, 0), (3, 0)] [0, 0, 100] _)
            refine su_iastore hC dX10_drives_121 (?_ : SdS X 122 [(0, 20), (1, 0), (2, 0), (3, 0)] [] _)
            refine su_aload_n hC 20 dX10_drives_122 rfl (by decide) (by decide) (?_ : SdS X 123 [(0, 20), (1, 0), (2, 0), (3, 0)] [20] _)
            refine su_getR hC (ci := 10) (j := 32) (C := RX10) (T := TX10) (N := 45) rfl rfl (by decide) in_X10 wl_5_196 rfl dX10_drives_123 (?_ : SdS X 126 [(0, 20), (1, 0), (2, 0), (3, 0)] [100] _)
            refine su_iload_n hC dX10_drives_126 rfl (by decide) (?_ : SdS X 127 [(0, 20), (1, 0), (2, 0), (3, 0)] [0, 100] _)
            refine su_iconst hC dX10_drives_127 ⟨by decide, by decide⟩ (?_ : SdS X 128 [(0, 20), (1, 0), (2, 0), (3, 0)] [0, 0, 100] _)
            refine su_iadd hC dX10_drives_128 (?_ : SdS X 129 [(0, 20), (1, 0), (2, 0), (3, 0)] [0, 100] _)
            refine su_aload_n hC 20 dX10_drives_129 rfl (by decide) (by decide) (?_ : SdS X 130 [(0, 20), (1, 0), (2, 0), (3, 0)] [20, 0, 100] _)
            refine su_getR hC (ci := 10) (j := 32) (C := RX10) (T := TX10) (N := 45) rfl rfl (by decide) in_X10 wl_5_196 rfl dX10_drives_130 (?_ : SdS X 133 [(0, 20), (1, 0), (2, 0), (3, 0)] [100, 0, 100] _)
            refine su_iload_n hC dX10_drives_133 rfl (by decide) (?_ : SdS X 134 [(0, 20), (1, 0), (2, 0), (3, 0)] [0, 100, 0, 100] _)
            refine su_iconst hC dX10_drives_134 ⟨by decide, by decide⟩ (?_ : SdS X 135 [(0, 20), (1, 0), (2, 0), (3, 0)] [0, 0, 100, 0, 100] _)
            refine su_iadd hC dX10_drives_135 (?_ : SdS X 136 [(0, 20), (1, 0), (2, 0), (3, 0)] [0, 100, 0, 100] _)
            refine su_iaload hC dX10_drives_136 (?_ : SdS X 137 [(0, 20), (1, 0), (2, 0), (3, 0)] [0, 0, 100] _)
            refine su_aload_n hC 20 dX10_drives_137 rfl (by decide) (by decide) (?_ : SdS X 138 [(0, 20), (1, 0), (2, 0), (3, 0)] [20, 0, 0, 100] _)
            refine su_iload_n hC dX10_drives_138 rfl (by decide) (?_ : SdS X 139 [(0, 20), (1, 0), (2, 0), (3, 0)] [0, 20, 0, 0, 100] _)
            refine su_inv0 (τ := [0, 0, 100]) (τr := [0]) (ci := 10) (q := (RX10, TX10, 45)) hC WG (M_X10_placeNext _) rfl rfl rfl rfl  rfl rfl wl_8_35 wl_8_37 wp_116 wl_1_10 wl_8_38 hd_X10_placeNext (by rw [e3]; decide) (by decide) dX10_drives_139 (?_ : SdS X 142 [(0, 20), (1, 0), (2, 0), (3, 0)] [0, 0, 0, 100] _)
            refine su_invs (τ := [0, 100]) (τs := [0, 0]) hC false "" WG (M_X10_round _) rfl rfl rfl rfl wl_7_168 wl_7_169 wl_1_10 wl_7_170 hd_X10_round (by rw [e3]; decide) (by decide) dX10_drives_142 (?_ : SdS X 145 [(0, 20), (1, 0), (2, 0), (3, 0)] [0, 0, 100] _)
            refine su_iastore hC dX10_drives_145 (?_ : SdS X 146 [(0, 20), (1, 0), (2, 0), (3, 0)] [] _)
            exact su_return hC hT dX10_drives_146
          · refine su_goto (tgt := 147) hC dX10_drives_101 rfl (?_ : SdS X 147 [(0, 20), (1, 0), (2, 0), (3, 0)] [] _)
            exact SdS.weak (by decide) (S_147 k42 h42)
  refine (?_ : SdS X 0 [(0, 20), (1, 0)] [] (E_X10_drives Q))
  unfold E_X10_drives
  refine su_bipush hC dX10_drives_0 (by decide) (?_ : SdS X 2 [(0, 20), (1, 0)] [0] _)
  refine su_iload_n hC dX10_drives_2 rfl (by decide) (?_ : SdS X 3 [(0, 20), (1, 0)] [0, 0] _)
  refine su_imul hC dX10_drives_3 (?_ : SdS X 4 [(0, 20), (1, 0)] [0] _)
  refine su_istore_n (Γ' := [(0, 20), (1, 0), (2, 0)]) hC dX10_drives_4 rfl (by rw [e2]; decide) (by decide) (?_ : SdS X 5 [(0, 20), (1, 0), (2, 0)] [] _)
  refine su_aload_n hC 20 dX10_drives_5 rfl (by decide) (by decide) (?_ : SdS X 6 [(0, 20), (1, 0), (2, 0)] [20] _)
  refine su_getR hC (ci := 10) (j := 32) (C := RX10) (T := TX10) (N := 45) rfl rfl (by decide) in_X10 wl_5_196 rfl dX10_drives_6 (?_ : SdS X 9 [(0, 20), (1, 0), (2, 0)] [100] _)
  refine su_iload_n hC dX10_drives_9 rfl (by decide) (?_ : SdS X 10 [(0, 20), (1, 0), (2, 0)] [0, 100] _)
  refine su_iconst hC dX10_drives_10 ⟨by decide, by decide⟩ (?_ : SdS X 11 [(0, 20), (1, 0), (2, 0)] [0, 0, 100] _)
  refine su_iadd hC dX10_drives_11 (?_ : SdS X 12 [(0, 20), (1, 0), (2, 0)] [0, 100] _)
  refine su_iaload hC dX10_drives_12 (?_ : SdS X 13 [(0, 20), (1, 0), (2, 0)] [0] _)
  refine su_iconst hC dX10_drives_13 ⟨by decide, by decide⟩ (?_ : SdS X 14 [(0, 20), (1, 0), (2, 0)] [0, 0] _)
  refine su_icmp_eq (tgt := 18) hC dX10_drives_14 rfl (?_ : SdS X 18 [(0, 20), (1, 0), (2, 0)] [] _) (?_ : SdS X 17 [(0, 20), (1, 0), (2, 0)] [] _)
  · refine su_aload_n hC 20 dX10_drives_18 rfl (by decide) (by decide) (?_ : SdS X 19 [(0, 20), (1, 0), (2, 0)] [20] _)
    refine su_getR hC (ci := 10) (j := 32) (C := RX10) (T := TX10) (N := 45) rfl rfl (by decide) in_X10 wl_5_196 rfl dX10_drives_19 (?_ : SdS X 22 [(0, 20), (1, 0), (2, 0)] [100] _)
    refine su_iload_n hC dX10_drives_22 rfl (by decide) (?_ : SdS X 23 [(0, 20), (1, 0), (2, 0)] [0, 100] _)
    refine su_iconst hC dX10_drives_23 ⟨by decide, by decide⟩ (?_ : SdS X 24 [(0, 20), (1, 0), (2, 0)] [0, 0, 100] _)
    refine su_iadd hC dX10_drives_24 (?_ : SdS X 25 [(0, 20), (1, 0), (2, 0)] [0, 100] _)
    refine su_iaload hC dX10_drives_25 (?_ : SdS X 26 [(0, 20), (1, 0), (2, 0)] [0] _)
    refine su_aload_n hC 20 dX10_drives_26 rfl (by decide) (by decide) (?_ : SdS X 27 [(0, 20), (1, 0), (2, 0)] [20, 0] _)
    refine su_iload_n hC dX10_drives_27 rfl (by decide) (?_ : SdS X 28 [(0, 20), (1, 0), (2, 0)] [0, 20, 0] _)
    refine su_inv0 (τ := [0]) (τr := [0]) (ci := 10) (q := (RX10, TX10, 45)) hC WG (M_X10_placeNext _) rfl rfl rfl rfl  rfl rfl wl_8_35 wl_8_37 wp_116 wl_1_10 wl_8_38 hd_X10_placeNext (by rw [e3]; decide) (by decide) dX10_drives_28 (?_ : SdS X 31 [(0, 20), (1, 0), (2, 0)] [0, 0] _)
    refine su_icmp_ne (tgt := 40) hC dX10_drives_31 rfl (?_ : SdS X 40 [(0, 20), (1, 0), (2, 0)] [] _) (?_ : SdS X 34 [(0, 20), (1, 0), (2, 0)] [] _)
    · refine su_iconst hC dX10_drives_40 ⟨by decide, by decide⟩ (?_ : SdS X 41 [(0, 20), (1, 0), (2, 0)] [0] _)
      refine su_istore_n (Γ' := [(0, 20), (1, 0), (2, 0), (3, 0)]) hC dX10_drives_41 rfl (by rw [e2]; decide) (by decide) (?_ : SdS X 42 [(0, 20), (1, 0), (2, 0), (3, 0)] [] _)
      exact SdS.weak (by decide) (S_42)
    · refine su_aload_n hC 20 dX10_drives_34 rfl (by decide) (by decide) (?_ : SdS X 35 [(0, 20), (1, 0), (2, 0)] [20] _)
      refine su_iload_n hC dX10_drives_35 rfl (by decide) (?_ : SdS X 36 [(0, 20), (1, 0), (2, 0)] [0, 20] _)
      refine su_inv0v (τ := []) (τr := [0]) (ci := 10) (q := (RX10, TX10, 45)) hC WG (M_X10_comes _) rfl rfl rfl rfl  rfl rfl wl_8_47 wl_8_49 wp_119 wl_1_10 wl_8_50 hd_X10_comes (by rw [e3]; decide) (by decide) dX10_drives_36 (?_ : SdS X 39 [(0, 20), (1, 0), (2, 0)] [] _)
      exact su_return hC hT dX10_drives_39
  · exact su_return hC hT dX10_drives_17
theorem hd_X10_fault : yX10_fault.cls ≠ "java/lang/invoke/MethodHandle" ∧ yX10_fault.cls ≠ "java/lang/invoke/VarHandle" ∧ (parseMethodDescriptor yX10_fault.desc).map (fun d => d.parameters.length) = some 0 := by decide +kernel
set_option maxRecDepth 100000 in
set_option maxHeartbeats 4000000 in
theorem M_X10_fault (l : Launch) : MtS l yX10_fault (Cond.code yX10_fault cX10_fault 1 (some .int) :: WALL) { frames := 0, cells := 0, slots := 0, locals := 0 } [20] (some 0) T_X10_fault := by
  refine MtS.mk (B := E_X10_fault) (by decide +kernel) (by decide) (fun _ _ _ hh => hh) ?_
  intro X Q e1 e2 e3 hC hN hT
  subst e1
  have hC : CF X cX10_fault RX10 WALL := hC
  refine (?_ : SdS X 0 [(0, 20)] [] (E_X10_fault Q))
  unfold E_X10_fault
  refine su_aload_n hC 20 dX10_fault_0 rfl (by decide) (by decide) (?_ : SdS X 1 [(0, 20)] [20] _)
  refine su_iconst hC dX10_fault_1 ⟨by decide, by decide⟩ (?_ : SdS X 2 [(0, 20)] [0, 20] _)
  refine su_putF hC (ci := 10) (j := 0) (C := RX10) (T := TX10) (N := 45) tyX10 tyX10_ok nmX10 rfl rfl (by decide) in_X10 rfl rfl wl_5_164 rfl dX10_fault_2 (?_ : SdS X 5 [(0, 20)] [] _)
  refine su_aload_n hC 20 dX10_fault_5 rfl (by decide) (by decide) (?_ : SdS X 6 [(0, 20)] [20] _)
  refine su_getF hC (ci := 10) (j := 13) (C := RX10) (T := TX10) (N := 45) rfl rfl (by decide) in_X10 wl_5_177 rfl dX10_fault_6 (?_ : SdS X 9 [(0, 20)] [0] _)
  exact su_ireturn hC hT dX10_fault_9
theorem hd_X10_feed : yX10_feed.cls ≠ "java/lang/invoke/MethodHandle" ∧ yX10_feed.cls ≠ "java/lang/invoke/VarHandle" ∧ (parseMethodDescriptor yX10_feed.desc).map (fun d => d.parameters.length) = some 5 := by decide +kernel
set_option maxRecDepth 100000 in
set_option maxHeartbeats 4000000 in
theorem M_X10_feed (l : Launch) : MtS l yX10_feed (Cond.code yX10_feed cX10_feed 8 (some .int) :: WALL) { frames := 0, cells := 0, slots := 0, locals := 0 } [20, 0, 0, 0, 0, 0] (some 0) T_X10_feed := by
  refine MtS.mk (B := E_X10_feed) (by decide +kernel) (by decide) (fun _ _ _ hh => hh) ?_
  intro X Q e1 e2 e3 hC hN hT
  subst e1
  have hC : CF X cX10_feed RX10 WALL := hC
  have S_76 : ∀ (k23 : xK), SdS X 23 [(0, 20), (1, 0), (2, 0), (3, 0), (4, 0), (5, 0), (6, 0)] [] k23 → SdS X 76 [(0, 20), (1, 0), (2, 0), (3, 0), (4, 0), (5, 0), (6, 0)] [0] (B_X10_feed_76 Q k23) := by
    intro k23 h23
    unfold B_X10_feed_76
    refine su_istore (Γ' := [(0, 20), (1, 0), (2, 0), (3, 0), (4, 0), (5, 0), (6, 0), (7, 0)]) hC dX10_feed_76 (by rw [e2]; decide) (by decide) (?_ : SdS X 78 [(0, 20), (1, 0), (2, 0), (3, 0), (4, 0), (5, 0), (6, 0), (7, 0)] [] _)
    refine su_aload_n hC 20 dX10_feed_78 rfl (by decide) (by decide) (?_ : SdS X 79 [(0, 20), (1, 0), (2, 0), (3, 0), (4, 0), (5, 0), (6, 0), (7, 0)] [20] _)
    refine su_getR hC (ci := 10) (j := 5) (C := RX10) (T := TX10) (N := 45) rfl rfl (by decide) in_X10 wl_5_169 rfl dX10_feed_79 (?_ : SdS X 82 [(0, 20), (1, 0), (2, 0), (3, 0), (4, 0), (5, 0), (6, 0), (7, 0)] [102] _)
    refine su_aload_n hC 20 dX10_feed_82 rfl (by decide) (by decide) (?_ : SdS X 83 [(0, 20), (1, 0), (2, 0), (3, 0), (4, 0), (5, 0), (6, 0), (7, 0)] [20, 102] _)
    refine su_getF hC (ci := 10) (j := 6) (C := RX10) (T := TX10) (N := 45) rfl rfl (by decide) in_X10 wl_5_170 rfl dX10_feed_83 (?_ : SdS X 86 [(0, 20), (1, 0), (2, 0), (3, 0), (4, 0), (5, 0), (6, 0), (7, 0)] [0, 102] _)
    refine su_iload hC dX10_feed_86 (by decide) (?_ : SdS X 88 [(0, 20), (1, 0), (2, 0), (3, 0), (4, 0), (5, 0), (6, 0), (7, 0)] [0, 0, 102] _)
    refine su_bipush hC dX10_feed_88 (by decide) (?_ : SdS X 90 [(0, 20), (1, 0), (2, 0), (3, 0), (4, 0), (5, 0), (6, 0), (7, 0)] [0, 0, 0, 102] _)
    refine su_bipush hC dX10_feed_90 (by decide) (?_ : SdS X 92 [(0, 20), (1, 0), (2, 0), (3, 0), (4, 0), (5, 0), (6, 0), (7, 0)] [0, 0, 0, 0, 102] _)
    refine su_iload hC dX10_feed_92 (by decide) (?_ : SdS X 94 [(0, 20), (1, 0), (2, 0), (3, 0), (4, 0), (5, 0), (6, 0), (7, 0)] [0, 0, 0, 0, 0, 102] _)
    refine su_iconst hC dX10_feed_94 ⟨by decide, by decide⟩ (?_ : SdS X 95 [(0, 20), (1, 0), (2, 0), (3, 0), (4, 0), (5, 0), (6, 0), (7, 0)] [0, 0, 0, 0, 0, 0, 102] _)
    refine su_irem hC dX10_feed_95 (?_ : SdS X 96 [(0, 20), (1, 0), (2, 0), (3, 0), (4, 0), (5, 0), (6, 0), (7, 0)] [0, 0, 0, 0, 0, 102] _)
    refine su_imul hC dX10_feed_96 (?_ : SdS X 97 [(0, 20), (1, 0), (2, 0), (3, 0), (4, 0), (5, 0), (6, 0), (7, 0)] [0, 0, 0, 0, 102] _)
    refine su_isub hC dX10_feed_97 (?_ : SdS X 98 [(0, 20), (1, 0), (2, 0), (3, 0), (4, 0), (5, 0), (6, 0), (7, 0)] [0, 0, 0, 102] _)
    refine su_ishr hC dX10_feed_98 (?_ : SdS X 99 [(0, 20), (1, 0), (2, 0), (3, 0), (4, 0), (5, 0), (6, 0), (7, 0)] [0, 0, 102] _)
    refine su_i2b hC dX10_feed_99 (?_ : SdS X 100 [(0, 20), (1, 0), (2, 0), (3, 0), (4, 0), (5, 0), (6, 0), (7, 0)] [0, 0, 102] _)
    refine su_bastore hC dX10_feed_100 (?_ : SdS X 101 [(0, 20), (1, 0), (2, 0), (3, 0), (4, 0), (5, 0), (6, 0), (7, 0)] [] _)
    refine su_aload_n hC 20 dX10_feed_101 rfl (by decide) (by decide) (?_ : SdS X 102 [(0, 20), (1, 0), (2, 0), (3, 0), (4, 0), (5, 0), (6, 0), (7, 0)] [20] _)
    refine su_dup hC (by decide) dX10_feed_102 (?_ : SdS X 103 [(0, 20), (1, 0), (2, 0), (3, 0), (4, 0), (5, 0), (6, 0), (7, 0)] [20, 20] _)
    refine su_getF hC (ci := 10) (j := 6) (C := RX10) (T := TX10) (N := 45) rfl rfl (by decide) in_X10 wl_5_170 rfl dX10_feed_103 (?_ : SdS X 106 [(0, 20), (1, 0), (2, 0), (3, 0), (4, 0), (5, 0), (6, 0), (7, 0)] [0, 20] _)
    refine su_iconst hC dX10_feed_106 ⟨by decide, by decide⟩ (?_ : SdS X 107 [(0, 20), (1, 0), (2, 0), (3, 0), (4, 0), (5, 0), (6, 0), (7, 0)] [0, 0, 20] _)
    refine su_iadd hC dX10_feed_107 (?_ : SdS X 108 [(0, 20), (1, 0), (2, 0), (3, 0), (4, 0), (5, 0), (6, 0), (7, 0)] [0, 20] _)
    refine su_putF hC (ci := 10) (j := 6) (C := RX10) (T := TX10) (N := 45) tyX10 tyX10_ok nmX10 rfl rfl (by decide) in_X10 rfl rfl wl_5_170 rfl dX10_feed_108 (?_ : SdS X 111 [(0, 20), (1, 0), (2, 0), (3, 0), (4, 0), (5, 0), (6, 0), (7, 0)] [] _)
    refine su_iinc (Γ' := [(0, 20), (1, 0), (2, 0), (3, 0), (4, 0), (5, 0), (6, 0), (7, 0)]) hC dX10_feed_111 (by decide) (by rw [e2]; decide) (by decide) (?_ : SdS X 114 [(0, 20), (1, 0), (2, 0), (3, 0), (4, 0), (5, 0), (6, 0), (7, 0)] [] _)
    refine su_goto (tgt := 23) hC dX10_feed_114 rfl (?_ : SdS X 23 [(0, 20), (1, 0), (2, 0), (3, 0), (4, 0), (5, 0), (6, 0), (7, 0)] [] _)
    exact SdS.weak (by decide) h23
  have S_23 : SdS X 23 [(0, 20), (1, 0), (2, 0), (3, 0), (4, 0), (5, 0), (6, 0)] [] (L_X10_feed_23 Q) := by
    unfold L_X10_feed_23
    refine SdS.loop (fun k23 h23 => ?_)
    refine su_iload hC dX10_feed_23 (by decide) (?_ : SdS X 25 [(0, 20), (1, 0), (2, 0), (3, 0), (4, 0), (5, 0), (6, 0)] [0] _)
    refine su_bipush hC dX10_feed_25 (by decide) (?_ : SdS X 27 [(0, 20), (1, 0), (2, 0), (3, 0), (4, 0), (5, 0), (6, 0)] [0, 0] _)
    refine su_icmp_ge (tgt := 117) hC dX10_feed_27 rfl (?_ : SdS X 117 [(0, 20), (1, 0), (2, 0), (3, 0), (4, 0), (5, 0), (6, 0)] [] _) (?_ : SdS X 30 [(0, 20), (1, 0), (2, 0), (3, 0), (4, 0), (5, 0), (6, 0)] [] _)
    · refine su_aload_n hC 20 dX10_feed_117 rfl (by decide) (by decide) (?_ : SdS X 118 [(0, 20), (1, 0), (2, 0), (3, 0), (4, 0), (5, 0), (6, 0)] [20] _)
      refine su_getF hC (ci := 10) (j := 6) (C := RX10) (T := TX10) (N := 45) rfl rfl (by decide) in_X10 wl_5_170 rfl dX10_feed_118 (?_ : SdS X 121 [(0, 20), (1, 0), (2, 0), (3, 0), (4, 0), (5, 0), (6, 0)] [0] _)
      exact su_ireturn hC hT dX10_feed_121
    · refine su_iload hC dX10_feed_30 (by decide) (?_ : SdS X 32 [(0, 20), (1, 0), (2, 0), (3, 0), (4, 0), (5, 0), (6, 0)] [0] _)
      refine su_iconst hC dX10_feed_32 ⟨by decide, by decide⟩ (?_ : SdS X 33 [(0, 20), (1, 0), (2, 0), (3, 0), (4, 0), (5, 0), (6, 0)] [0, 0] _)
      refine su_icmp_ge (tgt := 40) hC dX10_feed_33 rfl (?_ : SdS X 40 [(0, 20), (1, 0), (2, 0), (3, 0), (4, 0), (5, 0), (6, 0)] [] _) (?_ : SdS X 36 [(0, 20), (1, 0), (2, 0), (3, 0), (4, 0), (5, 0), (6, 0)] [] _)
      · refine su_iload hC dX10_feed_40 (by decide) (?_ : SdS X 42 [(0, 20), (1, 0), (2, 0), (3, 0), (4, 0), (5, 0), (6, 0)] [0] _)
        refine su_bipush hC dX10_feed_42 (by decide) (?_ : SdS X 44 [(0, 20), (1, 0), (2, 0), (3, 0), (4, 0), (5, 0), (6, 0)] [0, 0] _)
        refine su_icmp_ge (tgt := 51) hC dX10_feed_44 rfl (?_ : SdS X 51 [(0, 20), (1, 0), (2, 0), (3, 0), (4, 0), (5, 0), (6, 0)] [] _) (?_ : SdS X 47 [(0, 20), (1, 0), (2, 0), (3, 0), (4, 0), (5, 0), (6, 0)] [] _)
        · refine su_iload hC dX10_feed_51 (by decide) (?_ : SdS X 53 [(0, 20), (1, 0), (2, 0), (3, 0), (4, 0), (5, 0), (6, 0)] [0] _)
          refine su_bipush hC dX10_feed_53 (by decide) (?_ : SdS X 55 [(0, 20), (1, 0), (2, 0), (3, 0), (4, 0), (5, 0), (6, 0)] [0, 0] _)
          refine su_icmp_ge (tgt := 62) hC dX10_feed_55 rfl (?_ : SdS X 62 [(0, 20), (1, 0), (2, 0), (3, 0), (4, 0), (5, 0), (6, 0)] [] _) (?_ : SdS X 58 [(0, 20), (1, 0), (2, 0), (3, 0), (4, 0), (5, 0), (6, 0)] [] _)
          · refine su_iload hC dX10_feed_62 (by decide) (?_ : SdS X 64 [(0, 20), (1, 0), (2, 0), (3, 0), (4, 0), (5, 0), (6, 0)] [0] _)
            refine su_bipush hC dX10_feed_64 (by decide) (?_ : SdS X 66 [(0, 20), (1, 0), (2, 0), (3, 0), (4, 0), (5, 0), (6, 0)] [0, 0] _)
            refine su_icmp_ge (tgt := 74) hC dX10_feed_66 rfl (?_ : SdS X 74 [(0, 20), (1, 0), (2, 0), (3, 0), (4, 0), (5, 0), (6, 0)] [] _) (?_ : SdS X 69 [(0, 20), (1, 0), (2, 0), (3, 0), (4, 0), (5, 0), (6, 0)] [] _)
            · refine su_iload hC dX10_feed_74 (by decide) (?_ : SdS X 76 [(0, 20), (1, 0), (2, 0), (3, 0), (4, 0), (5, 0), (6, 0)] [0] _)
              exact SdS.weak (by decide) (S_76 k23 h23)
            · refine su_iload hC dX10_feed_69 (by decide) (?_ : SdS X 71 [(0, 20), (1, 0), (2, 0), (3, 0), (4, 0), (5, 0), (6, 0)] [0] _)
              refine su_goto (tgt := 76) hC dX10_feed_71 rfl (?_ : SdS X 76 [(0, 20), (1, 0), (2, 0), (3, 0), (4, 0), (5, 0), (6, 0)] [0] _)
              exact SdS.weak (by decide) (S_76 k23 h23)
          · refine su_iload_n hC dX10_feed_58 rfl (by decide) (?_ : SdS X 59 [(0, 20), (1, 0), (2, 0), (3, 0), (4, 0), (5, 0), (6, 0)] [0] _)
            refine su_goto (tgt := 76) hC dX10_feed_59 rfl (?_ : SdS X 76 [(0, 20), (1, 0), (2, 0), (3, 0), (4, 0), (5, 0), (6, 0)] [0] _)
            exact SdS.weak (by decide) (S_76 k23 h23)
        · refine su_iload_n hC dX10_feed_47 rfl (by decide) (?_ : SdS X 48 [(0, 20), (1, 0), (2, 0), (3, 0), (4, 0), (5, 0), (6, 0)] [0] _)
          refine su_goto (tgt := 76) hC dX10_feed_48 rfl (?_ : SdS X 76 [(0, 20), (1, 0), (2, 0), (3, 0), (4, 0), (5, 0), (6, 0)] [0] _)
          exact SdS.weak (by decide) (S_76 k23 h23)
      · refine su_iload_n hC dX10_feed_36 rfl (by decide) (?_ : SdS X 37 [(0, 20), (1, 0), (2, 0), (3, 0), (4, 0), (5, 0), (6, 0)] [0] _)
        refine su_goto (tgt := 76) hC dX10_feed_37 rfl (?_ : SdS X 76 [(0, 20), (1, 0), (2, 0), (3, 0), (4, 0), (5, 0), (6, 0)] [0] _)
        exact SdS.weak (by decide) (S_76 k23 h23)
  refine (?_ : SdS X 0 [(0, 20), (1, 0), (2, 0), (3, 0), (4, 0), (5, 0)] [] (E_X10_feed Q))
  unfold E_X10_feed
  refine su_aload_n hC 20 dX10_feed_0 rfl (by decide) (by decide) (?_ : SdS X 1 [(0, 20), (1, 0), (2, 0), (3, 0), (4, 0), (5, 0)] [20] _)
  refine su_iconst hC dX10_feed_1 ⟨by decide, by decide⟩ (?_ : SdS X 2 [(0, 20), (1, 0), (2, 0), (3, 0), (4, 0), (5, 0)] [0, 20] _)
  refine su_putF hC (ci := 10) (j := 0) (C := RX10) (T := TX10) (N := 45) tyX10 tyX10_ok nmX10 rfl rfl (by decide) in_X10 rfl rfl wl_5_164 rfl dX10_feed_2 (?_ : SdS X 5 [(0, 20), (1, 0), (2, 0), (3, 0), (4, 0), (5, 0)] [] _)
  refine su_aload_n hC 20 dX10_feed_5 rfl (by decide) (by decide) (?_ : SdS X 6 [(0, 20), (1, 0), (2, 0), (3, 0), (4, 0), (5, 0)] [20] _)
  refine su_getF hC (ci := 10) (j := 6) (C := RX10) (T := TX10) (N := 45) rfl rfl (by decide) in_X10 wl_5_170 rfl dX10_feed_6 (?_ : SdS X 9 [(0, 20), (1, 0), (2, 0), (3, 0), (4, 0), (5, 0)] [0] _)
  refine su_bipush hC dX10_feed_9 (by decide) (?_ : SdS X 11 [(0, 20), (1, 0), (2, 0), (3, 0), (4, 0), (5, 0)] [0, 0] _)
  refine su_iadd hC dX10_feed_11 (?_ : SdS X 12 [(0, 20), (1, 0), (2, 0), (3, 0), (4, 0), (5, 0)] [0] _)
  refine su_sipush hC dX10_feed_12 (by decide) (?_ : SdS X 15 [(0, 20), (1, 0), (2, 0), (3, 0), (4, 0), (5, 0)] [0, 0] _)
  refine su_icmp_le (tgt := 20) hC dX10_feed_15 rfl (?_ : SdS X 20 [(0, 20), (1, 0), (2, 0), (3, 0), (4, 0), (5, 0)] [] _) (?_ : SdS X 18 [(0, 20), (1, 0), (2, 0), (3, 0), (4, 0), (5, 0)] [] _)
  · refine su_iconst hC dX10_feed_20 ⟨by decide, by decide⟩ (?_ : SdS X 21 [(0, 20), (1, 0), (2, 0), (3, 0), (4, 0), (5, 0)] [0] _)
    refine su_istore (Γ' := [(0, 20), (1, 0), (2, 0), (3, 0), (4, 0), (5, 0), (6, 0)]) hC dX10_feed_21 (by rw [e2]; decide) (by decide) (?_ : SdS X 23 [(0, 20), (1, 0), (2, 0), (3, 0), (4, 0), (5, 0), (6, 0)] [] _)
    exact SdS.weak (by decide) (S_23)
  · refine su_iconst hC dX10_feed_18 ⟨by decide, by decide⟩ (?_ : SdS X 19 [(0, 20), (1, 0), (2, 0), (3, 0), (4, 0), (5, 0)] [0] _)
    exact su_ireturn hC hT dX10_feed_19
theorem hd_X10_fits : yX10_fits.cls ≠ "java/lang/invoke/MethodHandle" ∧ yX10_fits.cls ≠ "java/lang/invoke/VarHandle" ∧ (parseMethodDescriptor yX10_fits.desc).map (fun d => d.parameters.length) = some 4 := by decide +kernel
set_option maxRecDepth 100000 in
set_option maxHeartbeats 4000000 in
theorem M_X10_fits (l : Launch) : MtS l yX10_fits (Cond.code yX10_fits cX10_fits 5 (some .int) :: WALL) { frames := 2, cells := 0, slots := 0, locals := 46 } [20, 0, 0, 0, 0] (some 0) T_X10_fits := by
  refine MtS.mk (B := E_X10_fits) (by decide +kernel) (by decide) (fun _ _ _ hh => hh) ?_
  intro X Q e1 e2 e3 hC hN hT
  subst e1
  have hC : CF X cX10_fits RX10 WALL := hC
  have S_46 : SdS X 46 [(0, 20), (1, 0), (2, 0), (3, 0), (4, 0)] [] (B_X10_fits_46 Q) := by
    unfold B_X10_fits_46
    refine su_aload_n hC 20 dX10_fits_46 rfl (by decide) (by decide) (?_ : SdS X 47 [(0, 20), (1, 0), (2, 0), (3, 0), (4, 0)] [20] _)
    refine su_iconst hC dX10_fits_47 ⟨by decide, by decide⟩ (?_ : SdS X 48 [(0, 20), (1, 0), (2, 0), (3, 0), (4, 0)] [0, 20] _)
    refine su_inv0 (τ := []) (τr := [0]) (ci := 10) (q := (RX10, TX10, 45)) hC WG (M_X10_refused _) rfl rfl rfl rfl  rfl rfl wl_6_72 wl_6_74 wp_63 wl_1_10 wl_6_75 hd_X10_refused (by rw [e3]; decide) (by decide) dX10_fits_48 (?_ : SdS X 51 [(0, 20), (1, 0), (2, 0), (3, 0), (4, 0)] [0] _)
    exact su_ireturn hC hT dX10_fits_51
  have S_114 : SdS X 114 [(0, 20), (1, 0), (2, 0), (3, 0), (4, 0)] [0, 20] (B_X10_fits_114 Q) := by
    unfold B_X10_fits_114
    refine su_inv0 (τ := []) (τr := [0]) (ci := 10) (q := (RX10, TX10, 45)) hC WG (M_X10_good _) rfl rfl rfl rfl  rfl rfl wl_7_171 wl_7_173 wp_105 wl_1_10 wl_7_174 hd_X10_good (by rw [e3]; decide) (by decide) dX10_fits_114 (?_ : SdS X 117 [(0, 20), (1, 0), (2, 0), (3, 0), (4, 0)] [0] _)
    exact su_ireturn hC hT dX10_fits_117
  have S_113 : SdS X 113 [(0, 20), (1, 0), (2, 0), (3, 0), (4, 0)] [20] (B_X10_fits_113 Q) := by
    unfold B_X10_fits_113
    refine su_iconst hC dX10_fits_113 ⟨by decide, by decide⟩ (?_ : SdS X 114 [(0, 20), (1, 0), (2, 0), (3, 0), (4, 0)] [0, 20] _)
    exact SdS.weak (by decide) (S_114)
  have S_109 : SdS X 109 [(0, 20), (1, 0), (2, 0), (3, 0), (4, 0)] [20] (B_X10_fits_109 Q) := by
    unfold B_X10_fits_109
    refine su_iconst hC dX10_fits_109 ⟨by decide, by decide⟩ (?_ : SdS X 110 [(0, 20), (1, 0), (2, 0), (3, 0), (4, 0)] [0, 20] _)
    refine su_goto (tgt := 114) hC dX10_fits_110 rfl (?_ : SdS X 114 [(0, 20), (1, 0), (2, 0), (3, 0), (4, 0)] [0, 20] _)
    exact SdS.weak (by decide) (S_114)
  have S_36 : SdS X 36 [(0, 20), (1, 0), (2, 0), (3, 0), (4, 0)] [] (B_X10_fits_36 Q) := by
    unfold B_X10_fits_36
    refine su_iload hC dX10_fits_36 (by decide) (?_ : SdS X 38 [(0, 20), (1, 0), (2, 0), (3, 0), (4, 0)] [0] _)
    refine su_iconst hC dX10_fits_38 ⟨by decide, by decide⟩ (?_ : SdS X 39 [(0, 20), (1, 0), (2, 0), (3, 0), (4, 0)] [0, 0] _)
    refine su_iconst hC dX10_fits_39 ⟨by decide, by decide⟩ (?_ : SdS X 40 [(0, 20), (1, 0), (2, 0), (3, 0), (4, 0)] [0, 0, 0] _)
    refine su_invs (τ := []) (τs := [0, 0, 0]) hC false "" WG (M_X10_in _) rfl rfl rfl rfl wl_6_238 wl_6_239 wl_1_10 wl_7_0 hd_X10_in (by rw [e3]; decide) (by decide) dX10_fits_40 (?_ : SdS X 43 [(0, 20), (1, 0), (2, 0), (3, 0), (4, 0)] [0] _)
    refine su_if_ne (tgt := 52) hC dX10_fits_43 rfl (?_ : SdS X 52 [(0, 20), (1, 0), (2, 0), (3, 0), (4, 0)] [] _) (?_ : SdS X 46 [(0, 20), (1, 0), (2, 0), (3, 0), (4, 0)] [] _)
    · refine su_aload_n hC 20 dX10_fits_52 rfl (by decide) (by decide) (?_ : SdS X 53 [(0, 20), (1, 0), (2, 0), (3, 0), (4, 0)] [20] _)
      refine su_iload_n hC dX10_fits_53 rfl (by decide) (?_ : SdS X 54 [(0, 20), (1, 0), (2, 0), (3, 0), (4, 0)] [0, 20] _)
      refine su_iconst hC dX10_fits_54 ⟨by decide, by decide⟩ (?_ : SdS X 55 [(0, 20), (1, 0), (2, 0), (3, 0), (4, 0)] [0, 0, 20] _)
      refine su_inv0v (τ := []) (τr := [0, 0]) (ci := 10) (q := (RX10, TX10, 45)) hC WG (M_X10_takes _) rfl rfl rfl rfl  rfl rfl wl_7_103 wl_7_105 wp_90 wl_1_10 wl_7_106 hd_X10_takes (by rw [e3]; decide) (by decide) dX10_fits_55 (?_ : SdS X 58 [(0, 20), (1, 0), (2, 0), (3, 0), (4, 0)] [] _)
      refine su_aload_n hC 20 dX10_fits_58 rfl (by decide) (by decide) (?_ : SdS X 59 [(0, 20), (1, 0), (2, 0), (3, 0), (4, 0)] [20] _)
      refine su_iload hC dX10_fits_59 (by decide) (?_ : SdS X 61 [(0, 20), (1, 0), (2, 0), (3, 0), (4, 0)] [0, 20] _)
      refine su_inv0 (τ := []) (τr := [0]) (ci := 10) (q := (RX10, TX10, 45)) hC WG (M_X10_hasPose _) rfl rfl rfl rfl  rfl rfl wl_7_122 wl_7_124 wp_94 wl_1_10 wl_7_125 hd_X10_hasPose (by rw [e3]; decide) (by decide) dX10_fits_61 (?_ : SdS X 64 [(0, 20), (1, 0), (2, 0), (3, 0), (4, 0)] [0] _)
      refine su_if_ne (tgt := 73) hC dX10_fits_64 rfl (?_ : SdS X 73 [(0, 20), (1, 0), (2, 0), (3, 0), (4, 0)] [] _) (?_ : SdS X 67 [(0, 20), (1, 0), (2, 0), (3, 0), (4, 0)] [] _)
      · refine su_aload_n hC 20 dX10_fits_73 rfl (by decide) (by decide) (?_ : SdS X 74 [(0, 20), (1, 0), (2, 0), (3, 0), (4, 0)] [20] _)
        refine su_iload_n hC dX10_fits_74 rfl (by decide) (?_ : SdS X 75 [(0, 20), (1, 0), (2, 0), (3, 0), (4, 0)] [0, 20] _)
        refine su_if_eq (tgt := 91) hC dX10_fits_75 rfl (?_ : SdS X 91 [(0, 20), (1, 0), (2, 0), (3, 0), (4, 0)] [20] _) (?_ : SdS X 78 [(0, 20), (1, 0), (2, 0), (3, 0), (4, 0)] [20] _)
        · refine su_aload_n hC 20 dX10_fits_91 rfl (by decide) (by decide) (?_ : SdS X 92 [(0, 20), (1, 0), (2, 0), (3, 0), (4, 0)] [20, 20] _)
          refine su_iload hC dX10_fits_92 (by decide) (?_ : SdS X 94 [(0, 20), (1, 0), (2, 0), (3, 0), (4, 0)] [0, 20, 20] _)
          refine su_inv0 (τ := [20]) (τr := [0]) (ci := 10) (q := (RX10, TX10, 45)) hC WG (M_X10_wideIn _) rfl rfl rfl rfl  rfl rfl wl_7_126 wl_7_128 wp_95 wl_1_10 wl_7_129 hd_X10_wideIn (by rw [e3]; decide) (by decide) dX10_fits_94 (?_ : SdS X 97 [(0, 20), (1, 0), (2, 0), (3, 0), (4, 0)] [0, 20] _)
          refine su_aload_n hC 20 dX10_fits_97 rfl (by decide) (by decide) (?_ : SdS X 98 [(0, 20), (1, 0), (2, 0), (3, 0), (4, 0)] [20, 0, 20] _)
          refine su_getR hC (ci := 10) (j := 3) (C := RX10) (T := TX10) (N := 45) rfl rfl (by decide) in_X10 wl_5_167 rfl dX10_fits_98 (?_ : SdS X 101 [(0, 20), (1, 0), (2, 0), (3, 0), (4, 0)] [19, 0, 20] _)
          refine su_getRN hC (ci := 9) (j := 6) (C := RX9) (T := TX9) (N := 28) (host := "NarrowRingsModel") rfl rfl (by decide) in_X9 (by decide) rfl dX10_fits_101 (?_ : SdS X 104 [(0, 20), (1, 0), (2, 0), (3, 0), (4, 0)] [100, 0, 20] _)
          refine su_iload_n hC dX10_fits_104 rfl (by decide) (?_ : SdS X 105 [(0, 20), (1, 0), (2, 0), (3, 0), (4, 0)] [0, 100, 0, 20] _)
          refine su_iaload hC dX10_fits_105 (?_ : SdS X 106 [(0, 20), (1, 0), (2, 0), (3, 0), (4, 0)] [0, 0, 20] _)
          refine su_icmp_gt (tgt := 113) hC dX10_fits_106 rfl (?_ : SdS X 113 [(0, 20), (1, 0), (2, 0), (3, 0), (4, 0)] [20] _) (?_ : SdS X 109 [(0, 20), (1, 0), (2, 0), (3, 0), (4, 0)] [20] _)
          · exact SdS.weak (by decide) (S_113)
          · exact SdS.weak (by decide) (S_109)
        · refine su_aload_n hC 20 dX10_fits_78 rfl (by decide) (by decide) (?_ : SdS X 79 [(0, 20), (1, 0), (2, 0), (3, 0), (4, 0)] [20, 20] _)
          refine su_iload_n hC dX10_fits_79 rfl (by decide) (?_ : SdS X 80 [(0, 20), (1, 0), (2, 0), (3, 0), (4, 0)] [0, 20, 20] _)
          refine su_iload hC dX10_fits_80 (by decide) (?_ : SdS X 82 [(0, 20), (1, 0), (2, 0), (3, 0), (4, 0)] [0, 0, 20, 20] _)
          refine su_inv0 (τ := [20]) (τr := [0, 0]) (ci := 10) (q := (RX10, TX10, 45)) hC WG (M_X10_meets _) rfl rfl rfl rfl  rfl rfl wl_7_143 wl_7_145 wp_99 wl_1_10 wl_7_146 hd_X10_meets (by rw [e3]; decide) (by decide) dX10_fits_82 (?_ : SdS X 85 [(0, 20), (1, 0), (2, 0), (3, 0), (4, 0)] [0, 20] _)
          refine su_if_ne (tgt := 113) hC dX10_fits_85 rfl (?_ : SdS X 113 [(0, 20), (1, 0), (2, 0), (3, 0), (4, 0)] [20] _) (?_ : SdS X 88 [(0, 20), (1, 0), (2, 0), (3, 0), (4, 0)] [20] _)
          · exact SdS.weak (by decide) (S_113)
          · refine su_goto (tgt := 109) hC dX10_fits_88 rfl (?_ : SdS X 109 [(0, 20), (1, 0), (2, 0), (3, 0), (4, 0)] [20] _)
            exact SdS.weak (by decide) (S_109)
      · refine su_aload_n hC 20 dX10_fits_67 rfl (by decide) (by decide) (?_ : SdS X 68 [(0, 20), (1, 0), (2, 0), (3, 0), (4, 0)] [20] _)
        refine su_iconst hC dX10_fits_68 ⟨by decide, by decide⟩ (?_ : SdS X 69 [(0, 20), (1, 0), (2, 0), (3, 0), (4, 0)] [0, 20] _)
        refine su_inv0 (τ := []) (τr := [0]) (ci := 10) (q := (RX10, TX10, 45)) hC WG (M_X10_refused _) rfl rfl rfl rfl  rfl rfl wl_6_72 wl_6_74 wp_63 wl_1_10 wl_6_75 hd_X10_refused (by rw [e3]; decide) (by decide) dX10_fits_69 (?_ : SdS X 72 [(0, 20), (1, 0), (2, 0), (3, 0), (4, 0)] [0] _)
        exact su_ireturn hC hT dX10_fits_72
    · exact SdS.weak (by decide) (S_46)
  refine (?_ : SdS X 0 [(0, 20), (1, 0), (2, 0), (3, 0), (4, 0)] [] (E_X10_fits Q))
  unfold E_X10_fits
  refine su_aload_n hC 20 dX10_fits_0 rfl (by decide) (by decide) (?_ : SdS X 1 [(0, 20), (1, 0), (2, 0), (3, 0), (4, 0)] [20] _)
  refine su_iconst hC dX10_fits_1 ⟨by decide, by decide⟩ (?_ : SdS X 2 [(0, 20), (1, 0), (2, 0), (3, 0), (4, 0)] [0, 20] _)
  refine su_putF hC (ci := 10) (j := 0) (C := RX10) (T := TX10) (N := 45) tyX10 tyX10_ok nmX10 rfl rfl (by decide) in_X10 rfl rfl wl_5_164 rfl dX10_fits_2 (?_ : SdS X 5 [(0, 20), (1, 0), (2, 0), (3, 0), (4, 0)] [] _)
  refine su_aload_n hC 20 dX10_fits_5 rfl (by decide) (by decide) (?_ : SdS X 6 [(0, 20), (1, 0), (2, 0), (3, 0), (4, 0)] [20] _)
  refine su_iload_n hC dX10_fits_6 rfl (by decide) (?_ : SdS X 7 [(0, 20), (1, 0), (2, 0), (3, 0), (4, 0)] [0, 20] _)
  refine su_inv0 (τ := []) (τr := [0]) (ci := 10) (q := (RX10, TX10, 45)) hC WG (M_X10_isGood _) rfl rfl rfl rfl  rfl rfl wl_7_195 wl_7_197 wp_107 wl_1_10 wl_7_198 hd_X10_isGood (by rw [e3]; decide) (by decide) dX10_fits_7 (?_ : SdS X 10 [(0, 20), (1, 0), (2, 0), (3, 0), (4, 0)] [0] _)
  refine su_if_eq (tgt := 46) hC dX10_fits_10 rfl (?_ : SdS X 46 [(0, 20), (1, 0), (2, 0), (3, 0), (4, 0)] [] _) (?_ : SdS X 13 [(0, 20), (1, 0), (2, 0), (3, 0), (4, 0)] [] _)
  · exact SdS.weak (by decide) (S_46)
  · refine su_iload_n hC dX10_fits_13 rfl (by decide) (?_ : SdS X 14 [(0, 20), (1, 0), (2, 0), (3, 0), (4, 0)] [0] _)
    refine su_if_eq (tgt := 28) hC dX10_fits_14 rfl (?_ : SdS X 28 [(0, 20), (1, 0), (2, 0), (3, 0), (4, 0)] [] _) (?_ : SdS X 17 [(0, 20), (1, 0), (2, 0), (3, 0), (4, 0)] [] _)
    · refine su_aload_n hC 20 dX10_fits_28 rfl (by decide) (by decide) (?_ : SdS X 29 [(0, 20), (1, 0), (2, 0), (3, 0), (4, 0)] [20] _)
      refine su_iload_n hC dX10_fits_29 rfl (by decide) (?_ : SdS X 30 [(0, 20), (1, 0), (2, 0), (3, 0), (4, 0)] [0, 20] _)
      refine su_inv0 (τ := []) (τr := [0]) (ci := 10) (q := (RX10, TX10, 45)) hC WG (M_X10_isRing _) rfl rfl rfl rfl  rfl rfl wl_7_199 wl_7_201 wp_108 wl_1_10 wl_7_202 hd_X10_isRing (by rw [e3]; decide) (by decide) dX10_fits_30 (?_ : SdS X 33 [(0, 20), (1, 0), (2, 0), (3, 0), (4, 0)] [0] _)
      refine su_if_eq (tgt := 46) hC dX10_fits_33 rfl (?_ : SdS X 46 [(0, 20), (1, 0), (2, 0), (3, 0), (4, 0)] [] _) (?_ : SdS X 36 [(0, 20), (1, 0), (2, 0), (3, 0), (4, 0)] [] _)
      · exact SdS.weak (by decide) (S_46)
      · exact SdS.weak (by decide) (S_36)
    · refine su_aload_n hC 20 dX10_fits_17 rfl (by decide) (by decide) (?_ : SdS X 18 [(0, 20), (1, 0), (2, 0), (3, 0), (4, 0)] [20] _)
      refine su_iload_n hC dX10_fits_18 rfl (by decide) (?_ : SdS X 19 [(0, 20), (1, 0), (2, 0), (3, 0), (4, 0)] [0, 20] _)
      refine su_inv0 (τ := []) (τr := [0]) (ci := 10) (q := (RX10, TX10, 45)) hC WG (M_X10_isGate _) rfl rfl rfl rfl  rfl rfl wl_7_187 wl_7_189 wp_106 wl_1_10 wl_7_190 hd_X10_isGate (by rw [e3]; decide) (by decide) dX10_fits_19 (?_ : SdS X 22 [(0, 20), (1, 0), (2, 0), (3, 0), (4, 0)] [0] _)
      refine su_if_eq (tgt := 46) hC dX10_fits_22 rfl (?_ : SdS X 46 [(0, 20), (1, 0), (2, 0), (3, 0), (4, 0)] [] _) (?_ : SdS X 25 [(0, 20), (1, 0), (2, 0), (3, 0), (4, 0)] [] _)
      · exact SdS.weak (by decide) (S_46)
      · refine su_goto (tgt := 36) hC dX10_fits_25 rfl (?_ : SdS X 36 [(0, 20), (1, 0), (2, 0), (3, 0), (4, 0)] [] _)
        exact SdS.weak (by decide) (S_36)
theorem hd_X10_gate : yX10_gate.cls ≠ "java/lang/invoke/MethodHandle" ∧ yX10_gate.cls ≠ "java/lang/invoke/VarHandle" ∧ (parseMethodDescriptor yX10_gate.desc).map (fun d => d.parameters.length) = some 2 := by decide +kernel
set_option maxRecDepth 100000 in
set_option maxHeartbeats 4000000 in
theorem M_X10_gate (l : Launch) : MtS l yX10_gate (Cond.code yX10_gate cX10_gate 3 (some .int) :: WALL) { frames := 1, cells := 0, slots := 0, locals := 22 } [20, 0, 0] (some 0) T_X10_gate := by
  refine MtS.mk (B := E_X10_gate) (by decide +kernel) (by decide) (fun _ _ _ hh => hh) ?_
  intro X Q e1 e2 e3 hC hN hT
  subst e1
  have hC : CF X cX10_gate RX10 WALL := hC
  have S_41 : SdS X 41 [(0, 20), (1, 0), (2, 0)] [0] (B_X10_gate_41 Q) := by
    unfold B_X10_gate_41
    exact su_ireturn hC hT dX10_gate_41
  have S_36 : SdS X 36 [(0, 20), (1, 0), (2, 0)] [] (B_X10_gate_36 Q) := by
    unfold B_X10_gate_36
    refine su_aload_n hC 20 dX10_gate_36 rfl (by decide) (by decide) (?_ : SdS X 37 [(0, 20), (1, 0), (2, 0)] [20] _)
    refine su_iconst hC dX10_gate_37 ⟨by decide, by decide⟩ (?_ : SdS X 38 [(0, 20), (1, 0), (2, 0)] [0, 20] _)
    refine su_inv0 (τ := []) (τr := [0]) (ci := 10) (q := (RX10, TX10, 45)) hC WG (M_X10_refused _) rfl rfl rfl rfl  rfl rfl wl_6_72 wl_6_74 wp_63 wl_1_10 wl_6_75 hd_X10_refused (by rw [e3]; decide) (by decide) dX10_gate_38 (?_ : SdS X 41 [(0, 20), (1, 0), (2, 0)] [0] _)
    exact SdS.weak (by decide) (S_41)
  refine (?_ : SdS X 0 [(0, 20), (1, 0), (2, 0)] [] (E_X10_gate Q))
  unfold E_X10_gate
  refine su_aload_n hC 20 dX10_gate_0 rfl (by decide) (by decide) (?_ : SdS X 1 [(0, 20), (1, 0), (2, 0)] [20] _)
  refine su_iconst hC dX10_gate_1 ⟨by decide, by decide⟩ (?_ : SdS X 2 [(0, 20), (1, 0), (2, 0)] [0, 20] _)
  refine su_putF hC (ci := 10) (j := 0) (C := RX10) (T := TX10) (N := 45) tyX10 tyX10_ok nmX10 rfl rfl (by decide) in_X10 rfl rfl wl_5_164 rfl dX10_gate_2 (?_ : SdS X 5 [(0, 20), (1, 0), (2, 0)] [] _)
  refine su_aload_n hC 20 dX10_gate_5 rfl (by decide) (by decide) (?_ : SdS X 6 [(0, 20), (1, 0), (2, 0)] [20] _)
  refine su_iload_n hC dX10_gate_6 rfl (by decide) (?_ : SdS X 7 [(0, 20), (1, 0), (2, 0)] [0, 20] _)
  refine su_inv0 (τ := []) (τr := [0]) (ci := 10) (q := (RX10, TX10, 45)) hC WG (M_X10_isGate _) rfl rfl rfl rfl  rfl rfl wl_7_187 wl_7_189 wp_106 wl_1_10 wl_7_190 hd_X10_isGate (by rw [e3]; decide) (by decide) dX10_gate_7 (?_ : SdS X 10 [(0, 20), (1, 0), (2, 0)] [0] _)
  refine su_if_eq (tgt := 36) hC dX10_gate_10 rfl (?_ : SdS X 36 [(0, 20), (1, 0), (2, 0)] [] _) (?_ : SdS X 13 [(0, 20), (1, 0), (2, 0)] [] _)
  · exact SdS.weak (by decide) (S_36)
  · refine su_iload_n hC dX10_gate_13 rfl (by decide) (?_ : SdS X 14 [(0, 20), (1, 0), (2, 0)] [0] _)
    refine su_iconst hC dX10_gate_14 ⟨by decide, by decide⟩ (?_ : SdS X 15 [(0, 20), (1, 0), (2, 0)] [0, 0] _)
    refine su_bipush hC dX10_gate_15 (by decide) (?_ : SdS X 17 [(0, 20), (1, 0), (2, 0)] [0, 0, 0] _)
    refine su_invs (τ := []) (τs := [0, 0, 0]) hC false "" WG (M_X10_in _) rfl rfl rfl rfl wl_6_238 wl_6_239 wl_1_10 wl_7_0 hd_X10_in (by rw [e3]; decide) (by decide) dX10_gate_17 (?_ : SdS X 20 [(0, 20), (1, 0), (2, 0)] [0] _)
    refine su_if_eq (tgt := 36) hC dX10_gate_20 rfl (?_ : SdS X 36 [(0, 20), (1, 0), (2, 0)] [] _) (?_ : SdS X 23 [(0, 20), (1, 0), (2, 0)] [] _)
    · exact SdS.weak (by decide) (S_36)
    · refine su_aload_n hC 20 dX10_gate_23 rfl (by decide) (by decide) (?_ : SdS X 24 [(0, 20), (1, 0), (2, 0)] [20] _)
      refine su_aload_n hC 20 dX10_gate_24 rfl (by decide) (by decide) (?_ : SdS X 25 [(0, 20), (1, 0), (2, 0)] [20, 20] _)
      refine su_iload_n hC dX10_gate_25 rfl (by decide) (?_ : SdS X 26 [(0, 20), (1, 0), (2, 0)] [0, 20, 20] _)
      refine su_iload_n hC dX10_gate_26 rfl (by decide) (?_ : SdS X 27 [(0, 20), (1, 0), (2, 0)] [0, 0, 20, 20] _)
      refine su_inv0 (τ := [20]) (τr := [0, 0]) (ci := 10) (q := (RX10, TX10, 45)) hC WG (M_X10_of _) rfl rfl rfl rfl  rfl rfl wl_7_131 wl_7_133 wp_96 wl_1_10 wl_7_134 hd_X10_of (by rw [e3]; decide) (by decide) dX10_gate_27 (?_ : SdS X 30 [(0, 20), (1, 0), (2, 0)] [0, 20] _)
      refine su_inv0 (τ := []) (τr := [0]) (ci := 10) (q := (RX10, TX10, 45)) hC WG (M_X10_good _) rfl rfl rfl rfl  rfl rfl wl_7_171 wl_7_173 wp_105 wl_1_10 wl_7_174 hd_X10_good (by rw [e3]; decide) (by decide) dX10_gate_30 (?_ : SdS X 33 [(0, 20), (1, 0), (2, 0)] [0] _)
      refine su_goto (tgt := 41) hC dX10_gate_33 rfl (?_ : SdS X 41 [(0, 20), (1, 0), (2, 0)] [0] _)
      exact SdS.weak (by decide) (S_41)
theorem hd_X10_isOrder : yX10_isOrder.cls ≠ "java/lang/invoke/MethodHandle" ∧ yX10_isOrder.cls ≠ "java/lang/invoke/VarHandle" ∧ (parseMethodDescriptor yX10_isOrder.desc).map (fun d => d.parameters.length) = some 1 := by decide +kernel
set_option maxRecDepth 100000 in
set_option maxHeartbeats 4000000 in
theorem M_X10_isOrder (l : Launch) : MtS l yX10_isOrder (Cond.code yX10_isOrder cX10_isOrder 2 (some .boolean) :: WALL) { frames := 0, cells := 0, slots := 0, locals := 0 } [20, 0] (some 0) T_X10_isOrder := by
  refine MtS.mk (B := E_X10_isOrder) (by decide +kernel) (by decide) (fun _ _ _ hh => hh) ?_
  intro X Q e1 e2 e3 hC hN hT
  subst e1
  have hC : CF X cX10_isOrder RX10 WALL := hC
  have S_27 : SdS X 27 [(0, 20), (1, 0)] [0] (B_X10_isOrder_27 Q) := by
    unfold B_X10_isOrder_27
    exact su_zreturn hC hT dX10_isOrder_27
  have S_26 : SdS X 26 [(0, 20), (1, 0)] [] (B_X10_isOrder_26 Q) := by
    unfold B_X10_isOrder_26
    refine su_iconst hC dX10_isOrder_26 ⟨by decide, by decide⟩ (?_ : SdS X 27 [(0, 20), (1, 0)] [0] _)
    exact SdS.weak (by decide) (S_27)
  refine (?_ : SdS X 0 [(0, 20), (1, 0)] [] (E_X10_isOrder Q))
  unfold E_X10_isOrder
  refine su_aload_n hC 20 dX10_isOrder_0 rfl (by decide) (by decide) (?_ : SdS X 1 [(0, 20), (1, 0)] [20] _)
  refine su_getR hC (ci := 10) (j := 3) (C := RX10) (T := TX10) (N := 45) rfl rfl (by decide) in_X10 wl_5_167 rfl dX10_isOrder_1 (?_ : SdS X 4 [(0, 20), (1, 0)] [19] _)
  refine su_ifnull (tgt := 26) hC (by decide) dX10_isOrder_4 rfl (?_ : SdS X 26 [(0, 20), (1, 0)] [] _) (?_ : SdS X 7 [(0, 20), (1, 0)] [] _)
  · exact SdS.weak (by decide) (S_26)
  · refine su_iload_n hC dX10_isOrder_7 rfl (by decide) (?_ : SdS X 8 [(0, 20), (1, 0)] [0] _)
    refine su_if_lt (tgt := 26) hC dX10_isOrder_8 rfl (?_ : SdS X 26 [(0, 20), (1, 0)] [] _) (?_ : SdS X 11 [(0, 20), (1, 0)] [] _)
    · exact SdS.weak (by decide) (S_26)
    · refine su_iload_n hC dX10_isOrder_11 rfl (by decide) (?_ : SdS X 12 [(0, 20), (1, 0)] [0] _)
      refine su_aload_n hC 20 dX10_isOrder_12 rfl (by decide) (by decide) (?_ : SdS X 13 [(0, 20), (1, 0)] [20, 0] _)
      refine su_getR hC (ci := 10) (j := 3) (C := RX10) (T := TX10) (N := 45) rfl rfl (by decide) in_X10 wl_5_167 rfl dX10_isOrder_13 (?_ : SdS X 16 [(0, 20), (1, 0)] [19, 0] _)
      refine su_getFN hC (ci := 9) (j := 4) (C := RX9) (T := TX9) (N := 28) (host := "NarrowRingsModel") rfl rfl (by decide) in_X9 (by decide) rfl dX10_isOrder_16 (?_ : SdS X 19 [(0, 20), (1, 0)] [0, 0] _)
      refine su_icmp_ge (tgt := 26) hC dX10_isOrder_19 rfl (?_ : SdS X 26 [(0, 20), (1, 0)] [] _) (?_ : SdS X 22 [(0, 20), (1, 0)] [] _)
      · exact SdS.weak (by decide) (S_26)
      · refine su_iconst hC dX10_isOrder_22 ⟨by decide, by decide⟩ (?_ : SdS X 23 [(0, 20), (1, 0)] [0] _)
        refine su_goto (tgt := 27) hC dX10_isOrder_23 rfl (?_ : SdS X 27 [(0, 20), (1, 0)] [0] _)
        exact SdS.weak (by decide) (S_27)
theorem wl_7_235 : Cond.methodLink RX10 456 yX10_isOrder ∈ WALL := tb7 (List.mem_of_getElem? (i := 235) rfl) rfl
theorem wl_7_237 : Cond.instanceMethod yX10_isOrder ∈ WALL := tb7 (List.mem_of_getElem? (i := 237) rfl) rfl
theorem wp_111 : Cond.selects RX10 yX10_isOrder yX10_isOrder ∈ WALL := tbS (List.mem_of_getElem? (i := 111) rfl)
theorem wl_7_238 : Cond.code yX10_isOrder cX10_isOrder 2 (some .boolean) ∈ WALL := tb7 (List.mem_of_getElem? (i := 238) rfl) rfl
theorem hd_X10_gateOf : yX10_gateOf.cls ≠ "java/lang/invoke/MethodHandle" ∧ yX10_gateOf.cls ≠ "java/lang/invoke/VarHandle" ∧ (parseMethodDescriptor yX10_gateOf.desc).map (fun d => d.parameters.length) = some 2 := by decide +kernel
set_option maxRecDepth 100000 in
set_option maxHeartbeats 4000000 in
theorem M_X10_gateOf (l : Launch) : MtS l yX10_gateOf (Cond.code yX10_gateOf cX10_gateOf 3 (some .int) :: WALL) { frames := 7, cells := 0, slots := 0, locals := 172 } [20, 0, 0] (some 0) T_X10_gateOf := by
  refine MtS.mk (B := E_X10_gateOf) (by decide +kernel) (by decide) (fun _ _ _ hh => hh) ?_
  intro X Q e1 e2 e3 hC hN hT
  subst e1
  have hC : CF X cX10_gateOf RX10 WALL := hC
  have S_17 : SdS X 17 [(0, 20), (1, 0), (2, 0)] [] (B_X10_gateOf_17 Q) := by
    unfold B_X10_gateOf_17
    refine su_aload_n hC 20 dX10_gateOf_17 rfl (by decide) (by decide) (?_ : SdS X 18 [(0, 20), (1, 0), (2, 0)] [20] _)
    refine su_iconst hC dX10_gateOf_18 ⟨by decide, by decide⟩ (?_ : SdS X 19 [(0, 20), (1, 0), (2, 0)] [0, 20] _)
    refine su_inv0 (τ := []) (τr := [0]) (ci := 10) (q := (RX10, TX10, 45)) hC WG (M_X10_refused _) rfl rfl rfl rfl  rfl rfl wl_6_72 wl_6_74 wp_63 wl_1_10 wl_6_75 hd_X10_refused (by rw [e3]; decide) (by decide) dX10_gateOf_19 (?_ : SdS X 22 [(0, 20), (1, 0), (2, 0)] [0] _)
    exact su_ireturn hC hT dX10_gateOf_22
  have S_64 : SdS X 64 [(0, 20), (1, 0), (2, 0)] [0] (B_X10_gateOf_64 Q) := by
    unfold B_X10_gateOf_64
    exact su_ireturn hC hT dX10_gateOf_64
  refine (?_ : SdS X 0 [(0, 20), (1, 0), (2, 0)] [] (E_X10_gateOf Q))
  unfold E_X10_gateOf
  refine su_aload_n hC 20 dX10_gateOf_0 rfl (by decide) (by decide) (?_ : SdS X 1 [(0, 20), (1, 0), (2, 0)] [20] _)
  refine su_iconst hC dX10_gateOf_1 ⟨by decide, by decide⟩ (?_ : SdS X 2 [(0, 20), (1, 0), (2, 0)] [0, 20] _)
  refine su_putF hC (ci := 10) (j := 0) (C := RX10) (T := TX10) (N := 45) tyX10 tyX10_ok nmX10 rfl rfl (by decide) in_X10 rfl rfl wl_5_164 rfl dX10_gateOf_2 (?_ : SdS X 5 [(0, 20), (1, 0), (2, 0)] [] _)
  refine su_aload_n hC 20 dX10_gateOf_5 rfl (by decide) (by decide) (?_ : SdS X 6 [(0, 20), (1, 0), (2, 0)] [20] _)
  refine su_iload_n hC dX10_gateOf_6 rfl (by decide) (?_ : SdS X 7 [(0, 20), (1, 0), (2, 0)] [0, 20] _)
  refine su_inv0 (τ := []) (τr := [0]) (ci := 10) (q := (RX10, TX10, 45)) hC WG (M_X10_isOrder _) rfl rfl rfl rfl  rfl rfl wl_7_235 wl_7_237 wp_111 wl_1_10 wl_7_238 hd_X10_isOrder (by rw [e3]; decide) (by decide) dX10_gateOf_7 (?_ : SdS X 10 [(0, 20), (1, 0), (2, 0)] [0] _)
  refine su_if_eq (tgt := 17) hC dX10_gateOf_10 rfl (?_ : SdS X 17 [(0, 20), (1, 0), (2, 0)] [] _) (?_ : SdS X 13 [(0, 20), (1, 0), (2, 0)] [] _)
  · exact SdS.weak (by decide) (S_17)
  · refine su_iload_n hC dX10_gateOf_13 rfl (by decide) (?_ : SdS X 14 [(0, 20), (1, 0), (2, 0)] [0] _)
    refine su_if_ge (tgt := 23) hC dX10_gateOf_14 rfl (?_ : SdS X 23 [(0, 20), (1, 0), (2, 0)] [] _) (?_ : SdS X 17 [(0, 20), (1, 0), (2, 0)] [] _)
    · refine su_aload_n hC 20 dX10_gateOf_23 rfl (by decide) (by decide) (?_ : SdS X 24 [(0, 20), (1, 0), (2, 0)] [20] _)
      refine su_iload_n hC dX10_gateOf_24 rfl (by decide) (?_ : SdS X 25 [(0, 20), (1, 0), (2, 0)] [0, 20] _)
      refine su_inv0 (τ := []) (τr := [0]) (ci := 10) (q := (RX10, TX10, 45)) hC WG (M_X10_findsOrder _) rfl rfl rfl rfl  rfl rfl wl_7_91 wl_7_93 wp_87 wl_1_10 wl_7_94 hd_X10_findsOrder (by rw [e3]; decide) (by decide) dX10_gateOf_25 (?_ : SdS X 28 [(0, 20), (1, 0), (2, 0)] [0] _)
      refine su_if_ne (tgt := 38) hC dX10_gateOf_28 rfl (?_ : SdS X 38 [(0, 20), (1, 0), (2, 0)] [] _) (?_ : SdS X 31 [(0, 20), (1, 0), (2, 0)] [] _)
      · refine su_iload_n hC dX10_gateOf_38 rfl (by decide) (?_ : SdS X 39 [(0, 20), (1, 0), (2, 0)] [0] _)
        refine su_aload_n hC 20 dX10_gateOf_39 rfl (by decide) (by decide) (?_ : SdS X 40 [(0, 20), (1, 0), (2, 0)] [20, 0] _)
        refine su_getF hC (ci := 10) (j := 30) (C := RX10) (T := TX10) (N := 45) rfl rfl (by decide) in_X10 wl_5_194 rfl dX10_gateOf_40 (?_ : SdS X 43 [(0, 20), (1, 0), (2, 0)] [0, 0] _)
        refine su_icmp_ge (tgt := 59) hC dX10_gateOf_43 rfl (?_ : SdS X 59 [(0, 20), (1, 0), (2, 0)] [] _) (?_ : SdS X 46 [(0, 20), (1, 0), (2, 0)] [] _)
        · refine su_aload_n hC 20 dX10_gateOf_59 rfl (by decide) (by decide) (?_ : SdS X 60 [(0, 20), (1, 0), (2, 0)] [20] _)
          refine su_iconst hC dX10_gateOf_60 ⟨by decide, by decide⟩ (?_ : SdS X 61 [(0, 20), (1, 0), (2, 0)] [0, 20] _)
          refine su_inv0 (τ := []) (τr := [0]) (ci := 10) (q := (RX10, TX10, 45)) hC WG (M_X10_refused _) rfl rfl rfl rfl  rfl rfl wl_6_72 wl_6_74 wp_63 wl_1_10 wl_6_75 hd_X10_refused (by rw [e3]; decide) (by decide) dX10_gateOf_61 (?_ : SdS X 64 [(0, 20), (1, 0), (2, 0)] [0] _)
          exact SdS.weak (by decide) (S_64)
        · refine su_aload_n hC 20 dX10_gateOf_46 rfl (by decide) (by decide) (?_ : SdS X 47 [(0, 20), (1, 0), (2, 0)] [20] _)
          refine su_aload_n hC 20 dX10_gateOf_47 rfl (by decide) (by decide) (?_ : SdS X 48 [(0, 20), (1, 0), (2, 0)] [20, 20] _)
          refine su_getR hC (ci := 10) (j := 31) (C := RX10) (T := TX10) (N := 45) rfl rfl (by decide) in_X10 wl_5_195 rfl dX10_gateOf_48 (?_ : SdS X 51 [(0, 20), (1, 0), (2, 0)] [100, 20] _)
          refine su_iload_n hC dX10_gateOf_51 rfl (by decide) (?_ : SdS X 52 [(0, 20), (1, 0), (2, 0)] [0, 100, 20] _)
          refine su_iaload hC dX10_gateOf_52 (?_ : SdS X 53 [(0, 20), (1, 0), (2, 0)] [0, 20] _)
          refine su_inv0 (τ := []) (τr := [0]) (ci := 10) (q := (RX10, TX10, 45)) hC WG (M_X10_good _) rfl rfl rfl rfl  rfl rfl wl_7_171 wl_7_173 wp_105 wl_1_10 wl_7_174 hd_X10_good (by rw [e3]; decide) (by decide) dX10_gateOf_53 (?_ : SdS X 56 [(0, 20), (1, 0), (2, 0)] [0] _)
          refine su_goto (tgt := 64) hC dX10_gateOf_56 rfl (?_ : SdS X 64 [(0, 20), (1, 0), (2, 0)] [0] _)
          exact SdS.weak (by decide) (S_64)
      · refine su_aload_n hC 20 dX10_gateOf_31 rfl (by decide) (by decide) (?_ : SdS X 32 [(0, 20), (1, 0), (2, 0)] [20] _)
        refine su_bipush hC dX10_gateOf_32 (by decide) (?_ : SdS X 34 [(0, 20), (1, 0), (2, 0)] [0, 20] _)
        refine su_inv0 (τ := []) (τr := [0]) (ci := 10) (q := (RX10, TX10, 45)) hC WG (M_X10_refused _) rfl rfl rfl rfl  rfl rfl wl_6_72 wl_6_74 wp_63 wl_1_10 wl_6_75 hd_X10_refused (by rw [e3]; decide) (by decide) dX10_gateOf_34 (?_ : SdS X 37 [(0, 20), (1, 0), (2, 0)] [0] _)
        exact su_ireturn hC hT dX10_gateOf_37
    · exact SdS.weak (by decide) (S_17)
theorem hd_X10_holds : yX10_holds.cls ≠ "java/lang/invoke/MethodHandle" ∧ yX10_holds.cls ≠ "java/lang/invoke/VarHandle" ∧ (parseMethodDescriptor yX10_holds.desc).map (fun d => d.parameters.length) = some 1 := by decide +kernel
set_option maxRecDepth 100000 in
set_option maxHeartbeats 4000000 in
theorem M_X10_holds (l : Launch) : MtS l yX10_holds (Cond.code yX10_holds cX10_holds 5 (some .int) :: WALL) { frames := 0, cells := 0, slots := 0, locals := 0 } [20, 0] (some 0) T_X10_holds := by
  refine MtS.mk (B := E_X10_holds) (by decide +kernel) (by decide) (fun _ _ _ hh => hh) ?_
  intro X Q e1 e2 e3 hC hN hT
  subst e1
  have hC : CF X cX10_holds RX10 WALL := hC
  have S_74 : SdS X 74 [(0, 20), (1, 0), (2, 0), (3, 0), (4, 0)] [0] (B_X10_holds_74 Q) := by
    unfold B_X10_holds_74
    exact su_ireturn hC hT dX10_holds_74
  have S_40 : ∀ (k7 : xK), SdS X 7 [(0, 20), (1, 0), (2, 0), (3, 0), (4, 0)] [] k7 → SdS X 40 [(0, 20), (1, 0), (2, 0), (3, 0), (4, 0)] [0, 0] (B_X10_holds_40 Q k7) := by
    intro k7 h7
    unfold B_X10_holds_40
    refine su_iadd hC dX10_holds_40 (?_ : SdS X 41 [(0, 20), (1, 0), (2, 0), (3, 0), (4, 0)] [0] _)
    refine su_istore_n (Γ' := [(0, 20), (1, 0), (2, 0), (3, 0), (4, 0)]) hC dX10_holds_41 rfl (by rw [e2]; decide) (by decide) (?_ : SdS X 42 [(0, 20), (1, 0), (2, 0), (3, 0), (4, 0)] [] _)
    refine su_iload_n hC dX10_holds_42 rfl (by decide) (?_ : SdS X 43 [(0, 20), (1, 0), (2, 0), (3, 0), (4, 0)] [0] _)
    refine su_aload_n hC 20 dX10_holds_43 rfl (by decide) (by decide) (?_ : SdS X 44 [(0, 20), (1, 0), (2, 0), (3, 0), (4, 0)] [20, 0] _)
    refine su_getR hC (ci := 10) (j := 3) (C := RX10) (T := TX10) (N := 45) rfl rfl (by decide) in_X10 wl_5_167 rfl dX10_holds_44 (?_ : SdS X 47 [(0, 20), (1, 0), (2, 0), (3, 0), (4, 0)] [19, 0] _)
    refine su_getRN hC (ci := 9) (j := 8) (C := RX9) (T := TX9) (N := 28) (host := "NarrowRingsModel") rfl rfl (by decide) in_X9 (by decide) rfl dX10_holds_47 (?_ : SdS X 50 [(0, 20), (1, 0), (2, 0), (3, 0), (4, 0)] [100, 0] _)
    refine su_iload hC dX10_holds_50 (by decide) (?_ : SdS X 52 [(0, 20), (1, 0), (2, 0), (3, 0), (4, 0)] [0, 100, 0] _)
    refine su_iaload hC dX10_holds_52 (?_ : SdS X 53 [(0, 20), (1, 0), (2, 0), (3, 0), (4, 0)] [0, 0] _)
    refine su_iadd hC dX10_holds_53 (?_ : SdS X 54 [(0, 20), (1, 0), (2, 0), (3, 0), (4, 0)] [0] _)
    refine su_istore_n (Γ' := [(0, 20), (1, 0), (2, 0), (3, 0), (4, 0)]) hC dX10_holds_54 rfl (by rw [e2]; decide) (by decide) (?_ : SdS X 55 [(0, 20), (1, 0), (2, 0), (3, 0), (4, 0)] [] _)
    refine su_iinc (Γ' := [(0, 20), (1, 0), (2, 0), (3, 0), (4, 0)]) hC dX10_holds_55 (by decide) (by rw [e2]; decide) (by decide) (?_ : SdS X 58 [(0, 20), (1, 0), (2, 0), (3, 0), (4, 0)] [] _)
    refine su_goto (tgt := 7) hC dX10_holds_58 rfl (?_ : SdS X 7 [(0, 20), (1, 0), (2, 0), (3, 0), (4, 0)] [] _)
    exact SdS.weak (by decide) h7
  have S_7 : SdS X 7 [(0, 20), (1, 0), (2, 0), (3, 0), (4, 0)] [] (L_X10_holds_7 Q) := by
    unfold L_X10_holds_7
    refine SdS.loop (fun k7 h7 => ?_)
    refine su_iload hC dX10_holds_7 (by decide) (?_ : SdS X 9 [(0, 20), (1, 0), (2, 0), (3, 0), (4, 0)] [0] _)
    refine su_aload_n hC 20 dX10_holds_9 rfl (by decide) (by decide) (?_ : SdS X 10 [(0, 20), (1, 0), (2, 0), (3, 0), (4, 0)] [20, 0] _)
    refine su_getR hC (ci := 10) (j := 3) (C := RX10) (T := TX10) (N := 45) rfl rfl (by decide) in_X10 wl_5_167 rfl dX10_holds_10 (?_ : SdS X 13 [(0, 20), (1, 0), (2, 0), (3, 0), (4, 0)] [19, 0] _)
    refine su_getFN hC (ci := 9) (j := 0) (C := RX9) (T := TX9) (N := 28) (host := "NarrowRingsModel") rfl rfl (by decide) in_X9 (by decide) rfl dX10_holds_13 (?_ : SdS X 16 [(0, 20), (1, 0), (2, 0), (3, 0), (4, 0)] [0, 0] _)
    refine su_icmp_ge (tgt := 61) hC dX10_holds_16 rfl (?_ : SdS X 61 [(0, 20), (1, 0), (2, 0), (3, 0), (4, 0)] [] _) (?_ : SdS X 19 [(0, 20), (1, 0), (2, 0), (3, 0), (4, 0)] [] _)
    · refine su_iload_n hC dX10_holds_61 rfl (by decide) (?_ : SdS X 62 [(0, 20), (1, 0), (2, 0), (3, 0), (4, 0)] [0] _)
      refine su_if_ne (tgt := 71) hC dX10_holds_62 rfl (?_ : SdS X 71 [(0, 20), (1, 0), (2, 0), (3, 0), (4, 0)] [] _) (?_ : SdS X 65 [(0, 20), (1, 0), (2, 0), (3, 0), (4, 0)] [] _)
      · refine su_iload_n hC dX10_holds_71 rfl (by decide) (?_ : SdS X 72 [(0, 20), (1, 0), (2, 0), (3, 0), (4, 0)] [0] _)
        refine su_iload_n hC dX10_holds_72 rfl (by decide) (?_ : SdS X 73 [(0, 20), (1, 0), (2, 0), (3, 0), (4, 0)] [0, 0] _)
        refine su_idiv hC dX10_holds_73 (?_ : SdS X 74 [(0, 20), (1, 0), (2, 0), (3, 0), (4, 0)] [0] _)
        exact SdS.weak (by decide) (S_74)
      · refine su_sipush hC dX10_holds_65 (by decide) (?_ : SdS X 68 [(0, 20), (1, 0), (2, 0), (3, 0), (4, 0)] [0] _)
        refine su_goto (tgt := 74) hC dX10_holds_68 rfl (?_ : SdS X 74 [(0, 20), (1, 0), (2, 0), (3, 0), (4, 0)] [0] _)
        exact SdS.weak (by decide) (S_74)
    · refine su_iload_n hC dX10_holds_19 rfl (by decide) (?_ : SdS X 20 [(0, 20), (1, 0), (2, 0), (3, 0), (4, 0)] [0] _)
      refine su_iload hC dX10_holds_20 (by decide) (?_ : SdS X 22 [(0, 20), (1, 0), (2, 0), (3, 0), (4, 0)] [0, 0] _)
      refine su_iload_n hC dX10_holds_22 rfl (by decide) (?_ : SdS X 23 [(0, 20), (1, 0), (2, 0), (3, 0), (4, 0)] [0, 0, 0] _)
      refine su_icmp_lt (tgt := 39) hC dX10_holds_23 rfl (?_ : SdS X 39 [(0, 20), (1, 0), (2, 0), (3, 0), (4, 0)] [0] _) (?_ : SdS X 26 [(0, 20), (1, 0), (2, 0), (3, 0), (4, 0)] [0] _)
      · refine su_iconst hC dX10_holds_39 ⟨by decide, by decide⟩ (?_ : SdS X 40 [(0, 20), (1, 0), (2, 0), (3, 0), (4, 0)] [0, 0] _)
        exact SdS.weak (by decide) (S_40 k7 h7)
      · refine su_aload_n hC 20 dX10_holds_26 rfl (by decide) (by decide) (?_ : SdS X 27 [(0, 20), (1, 0), (2, 0), (3, 0), (4, 0)] [20, 0] _)
        refine su_getR hC (ci := 10) (j := 3) (C := RX10) (T := TX10) (N := 45) rfl rfl (by decide) in_X10 wl_5_167 rfl dX10_holds_27 (?_ : SdS X 30 [(0, 20), (1, 0), (2, 0), (3, 0), (4, 0)] [19, 0] _)
        refine su_getRN hC (ci := 9) (j := 7) (C := RX9) (T := TX9) (N := 28) (host := "NarrowRingsModel") rfl rfl (by decide) in_X9 (by decide) rfl dX10_holds_30 (?_ : SdS X 33 [(0, 20), (1, 0), (2, 0), (3, 0), (4, 0)] [100, 0] _)
        refine su_iload hC dX10_holds_33 (by decide) (?_ : SdS X 35 [(0, 20), (1, 0), (2, 0), (3, 0), (4, 0)] [0, 100, 0] _)
        refine su_iaload hC dX10_holds_35 (?_ : SdS X 36 [(0, 20), (1, 0), (2, 0), (3, 0), (4, 0)] [0, 0] _)
        refine su_goto (tgt := 40) hC dX10_holds_36 rfl (?_ : SdS X 40 [(0, 20), (1, 0), (2, 0), (3, 0), (4, 0)] [0, 0] _)
        exact SdS.weak (by decide) (S_40 k7 h7)
  refine (?_ : SdS X 0 [(0, 20), (1, 0)] [] (E_X10_holds Q))
  unfold E_X10_holds
  refine su_iconst hC dX10_holds_0 ⟨by decide, by decide⟩ (?_ : SdS X 1 [(0, 20), (1, 0)] [0] _)
  refine su_istore_n (Γ' := [(0, 20), (1, 0), (2, 0)]) hC dX10_holds_1 rfl (by rw [e2]; decide) (by decide) (?_ : SdS X 2 [(0, 20), (1, 0), (2, 0)] [] _)
  refine su_iconst hC dX10_holds_2 ⟨by decide, by decide⟩ (?_ : SdS X 3 [(0, 20), (1, 0), (2, 0)] [0] _)
  refine su_istore_n (Γ' := [(0, 20), (1, 0), (2, 0), (3, 0)]) hC dX10_holds_3 rfl (by rw [e2]; decide) (by decide) (?_ : SdS X 4 [(0, 20), (1, 0), (2, 0), (3, 0)] [] _)
  refine su_iconst hC dX10_holds_4 ⟨by decide, by decide⟩ (?_ : SdS X 5 [(0, 20), (1, 0), (2, 0), (3, 0)] [0] _)
  refine su_istore (Γ' := [(0, 20), (1, 0), (2, 0), (3, 0), (4, 0)]) hC dX10_holds_5 (by rw [e2]; decide) (by decide) (?_ : SdS X 7 [(0, 20), (1, 0), (2, 0), (3, 0), (4, 0)] [] _)
  exact SdS.weak (by decide) (S_7)
theorem wl_8_146 : Cond.methodLink RX10 520 yX10_holds ∈ WALL := tb8 (List.mem_of_getElem? (i := 146) rfl) rfl
theorem wl_8_148 : Cond.instanceMethod yX10_holds ∈ WALL := tb8 (List.mem_of_getElem? (i := 148) rfl) rfl
theorem wp_128 : Cond.selects RX10 yX10_holds yX10_holds ∈ WALL := tbS (List.mem_of_getElem? (i := 128) rfl)
theorem wl_8_149 : Cond.code yX10_holds cX10_holds 5 (some .int) ∈ WALL := tb8 (List.mem_of_getElem? (i := 149) rfl) rfl
theorem hd_X10_hold : yX10_hold.cls ≠ "java/lang/invoke/MethodHandle" ∧ yX10_hold.cls ≠ "java/lang/invoke/VarHandle" ∧ (parseMethodDescriptor yX10_hold.desc).map (fun d => d.parameters.length) = some 1 := by decide +kernel
set_option maxRecDepth 100000 in
set_option maxHeartbeats 4000000 in
theorem M_X10_hold (l : Launch) : MtS l yX10_hold (Cond.code yX10_hold cX10_hold 2 (some .int) :: WALL) { frames := 1, cells := 0, slots := 0, locals := 24 } [20, 0] (some 0) T_X10_hold := by
  refine MtS.mk (B := E_X10_hold) (by decide +kernel) (by decide) (fun _ _ _ hh => hh) ?_
  intro X Q e1 e2 e3 hC hN hT
  subst e1
  have hC : CF X cX10_hold RX10 WALL := hC
  have S_30 : SdS X 30 [(0, 20), (1, 0)] [0] (B_X10_hold_30 Q) := by
    unfold B_X10_hold_30
    exact su_ireturn hC hT dX10_hold_30
  refine (?_ : SdS X 0 [(0, 20), (1, 0)] [] (E_X10_hold Q))
  unfold E_X10_hold
  refine su_aload_n hC 20 dX10_hold_0 rfl (by decide) (by decide) (?_ : SdS X 1 [(0, 20), (1, 0)] [20] _)
  refine su_iconst hC dX10_hold_1 ⟨by decide, by decide⟩ (?_ : SdS X 2 [(0, 20), (1, 0)] [0, 20] _)
  refine su_putF hC (ci := 10) (j := 0) (C := RX10) (T := TX10) (N := 45) tyX10 tyX10_ok nmX10 rfl rfl (by decide) in_X10 rfl rfl wl_5_164 rfl dX10_hold_2 (?_ : SdS X 5 [(0, 20), (1, 0)] [] _)
  refine su_aload_n hC 20 dX10_hold_5 rfl (by decide) (by decide) (?_ : SdS X 6 [(0, 20), (1, 0)] [20] _)
  refine su_iload_n hC dX10_hold_6 rfl (by decide) (?_ : SdS X 7 [(0, 20), (1, 0)] [0, 20] _)
  refine su_inv0 (τ := []) (τr := [0]) (ci := 10) (q := (RX10, TX10, 45)) hC WG (M_X10_isRing _) rfl rfl rfl rfl  rfl rfl wl_7_199 wl_7_201 wp_108 wl_1_10 wl_7_202 hd_X10_isRing (by rw [e3]; decide) (by decide) dX10_hold_7 (?_ : SdS X 10 [(0, 20), (1, 0)] [0] _)
  refine su_if_eq (tgt := 25) hC dX10_hold_10 rfl (?_ : SdS X 25 [(0, 20), (1, 0)] [] _) (?_ : SdS X 13 [(0, 20), (1, 0)] [] _)
  · refine su_aload_n hC 20 dX10_hold_25 rfl (by decide) (by decide) (?_ : SdS X 26 [(0, 20), (1, 0)] [20] _)
    refine su_iconst hC dX10_hold_26 ⟨by decide, by decide⟩ (?_ : SdS X 27 [(0, 20), (1, 0)] [0, 20] _)
    refine su_inv0 (τ := []) (τr := [0]) (ci := 10) (q := (RX10, TX10, 45)) hC WG (M_X10_refused _) rfl rfl rfl rfl  rfl rfl wl_6_72 wl_6_74 wp_63 wl_1_10 wl_6_75 hd_X10_refused (by rw [e3]; decide) (by decide) dX10_hold_27 (?_ : SdS X 30 [(0, 20), (1, 0)] [0] _)
    exact SdS.weak (by decide) (S_30)
  · refine su_aload_n hC 20 dX10_hold_13 rfl (by decide) (by decide) (?_ : SdS X 14 [(0, 20), (1, 0)] [20] _)
    refine su_aload_n hC 20 dX10_hold_14 rfl (by decide) (by decide) (?_ : SdS X 15 [(0, 20), (1, 0)] [20, 20] _)
    refine su_iload_n hC dX10_hold_15 rfl (by decide) (?_ : SdS X 16 [(0, 20), (1, 0)] [0, 20, 20] _)
    refine su_inv0 (τ := [20]) (τr := [0]) (ci := 10) (q := (RX10, TX10, 45)) hC WG (M_X10_holds _) rfl rfl rfl rfl  rfl rfl wl_8_146 wl_8_148 wp_128 wl_1_10 wl_8_149 hd_X10_holds (by rw [e3]; decide) (by decide) dX10_hold_16 (?_ : SdS X 19 [(0, 20), (1, 0)] [0, 20] _)
    refine su_inv0 (τ := []) (τr := [0]) (ci := 10) (q := (RX10, TX10, 45)) hC WG (M_X10_good _) rfl rfl rfl rfl  rfl rfl wl_7_171 wl_7_173 wp_105 wl_1_10 wl_7_174 hd_X10_good (by rw [e3]; decide) (by decide) dX10_hold_19 (?_ : SdS X 22 [(0, 20), (1, 0)] [0] _)
    refine su_goto (tgt := 30) hC dX10_hold_22 rfl (?_ : SdS X 30 [(0, 20), (1, 0)] [0] _)
    exact SdS.weak (by decide) (S_30)
theorem wl_7_223 : Cond.methodLink RX10 449 yX10_areTold ∈ WALL := tb7 (List.mem_of_getElem? (i := 223) rfl) rfl
theorem wl_7_225 : Cond.instanceMethod yX10_areTold ∈ WALL := tb7 (List.mem_of_getElem? (i := 225) rfl) rfl
theorem wp_110 : Cond.selects RX10 yX10_areTold yX10_areTold ∈ WALL := tbS (List.mem_of_getElem? (i := 110) rfl)
theorem wl_7_226 : Cond.code yX10_areTold cX10_areTold 6 (some .boolean) ∈ WALL := tb7 (List.mem_of_getElem? (i := 226) rfl) rfl
theorem hd_X10_hours : yX10_hours.cls ≠ "java/lang/invoke/MethodHandle" ∧ yX10_hours.cls ≠ "java/lang/invoke/VarHandle" ∧ (parseMethodDescriptor yX10_hours.desc).map (fun d => d.parameters.length) = some 5 := by decide +kernel
set_option maxRecDepth 100000 in
set_option maxHeartbeats 4000000 in
theorem M_X10_hours (l : Launch) : MtS l yX10_hours (Cond.code yX10_hours cX10_hours 6 (some .int) :: WALL) { frames := 6, cells := 0, slots := 0, locals := 151 } [20, 0, 0, 0, 0, 0] (some 0) T_X10_hours := by
  refine MtS.mk (B := E_X10_hours) (by decide +kernel) (by decide) (fun _ _ _ hh => hh) ?_
  intro X Q e1 e2 e3 hC hN hT
  subst e1
  have hC : CF X cX10_hours RX10 WALL := hC
  have S_49 : SdS X 49 [(0, 20), (1, 0), (2, 0), (3, 0), (4, 0), (5, 0)] [0, 20] (B_X10_hours_49 Q) := by
    unfold B_X10_hours_49
    refine su_inv0 (τ := []) (τr := [0]) (ci := 10) (q := (RX10, TX10, 45)) hC WG (M_X10_good _) rfl rfl rfl rfl  rfl rfl wl_7_171 wl_7_173 wp_105 wl_1_10 wl_7_174 hd_X10_good (by rw [e3]; decide) (by decide) dX10_hours_49 (?_ : SdS X 52 [(0, 20), (1, 0), (2, 0), (3, 0), (4, 0), (5, 0)] [0] _)
    exact su_ireturn hC hT dX10_hours_52
  refine (?_ : SdS X 0 [(0, 20), (1, 0), (2, 0), (3, 0), (4, 0), (5, 0)] [] (E_X10_hours Q))
  unfold E_X10_hours
  refine su_aload_n hC 20 dX10_hours_0 rfl (by decide) (by decide) (?_ : SdS X 1 [(0, 20), (1, 0), (2, 0), (3, 0), (4, 0), (5, 0)] [20] _)
  refine su_iconst hC dX10_hours_1 ⟨by decide, by decide⟩ (?_ : SdS X 2 [(0, 20), (1, 0), (2, 0), (3, 0), (4, 0), (5, 0)] [0, 20] _)
  refine su_putF hC (ci := 10) (j := 0) (C := RX10) (T := TX10) (N := 45) tyX10 tyX10_ok nmX10 rfl rfl (by decide) in_X10 rfl rfl wl_5_164 rfl dX10_hours_2 (?_ : SdS X 5 [(0, 20), (1, 0), (2, 0), (3, 0), (4, 0), (5, 0)] [] _)
  refine su_aload_n hC 20 dX10_hours_5 rfl (by decide) (by decide) (?_ : SdS X 6 [(0, 20), (1, 0), (2, 0), (3, 0), (4, 0), (5, 0)] [20] _)
  refine su_iload_n hC dX10_hours_6 rfl (by decide) (?_ : SdS X 7 [(0, 20), (1, 0), (2, 0), (3, 0), (4, 0), (5, 0)] [0, 20] _)
  refine su_iload_n hC dX10_hours_7 rfl (by decide) (?_ : SdS X 8 [(0, 20), (1, 0), (2, 0), (3, 0), (4, 0), (5, 0)] [0, 0, 20] _)
  refine su_iload_n hC dX10_hours_8 rfl (by decide) (?_ : SdS X 9 [(0, 20), (1, 0), (2, 0), (3, 0), (4, 0), (5, 0)] [0, 0, 0, 20] _)
  refine su_iload hC dX10_hours_9 (by decide) (?_ : SdS X 11 [(0, 20), (1, 0), (2, 0), (3, 0), (4, 0), (5, 0)] [0, 0, 0, 0, 20] _)
  refine su_iload hC dX10_hours_11 (by decide) (?_ : SdS X 13 [(0, 20), (1, 0), (2, 0), (3, 0), (4, 0), (5, 0)] [0, 0, 0, 0, 0, 20] _)
  refine su_inv0 (τ := []) (τr := [0, 0, 0, 0, 0]) (ci := 10) (q := (RX10, TX10, 45)) hC WG (M_X10_areTold _) rfl rfl rfl rfl  rfl rfl wl_7_223 wl_7_225 wp_110 wl_1_10 wl_7_226 hd_X10_areTold (by rw [e3]; decide) (by decide) dX10_hours_13 (?_ : SdS X 16 [(0, 20), (1, 0), (2, 0), (3, 0), (4, 0), (5, 0)] [0] _)
  refine su_if_ne (tgt := 25) hC dX10_hours_16 rfl (?_ : SdS X 25 [(0, 20), (1, 0), (2, 0), (3, 0), (4, 0), (5, 0)] [] _) (?_ : SdS X 19 [(0, 20), (1, 0), (2, 0), (3, 0), (4, 0), (5, 0)] [] _)
  · refine su_aload_n hC 20 dX10_hours_25 rfl (by decide) (by decide) (?_ : SdS X 26 [(0, 20), (1, 0), (2, 0), (3, 0), (4, 0), (5, 0)] [20] _)
    refine su_aload_n hC 20 dX10_hours_26 rfl (by decide) (by decide) (?_ : SdS X 27 [(0, 20), (1, 0), (2, 0), (3, 0), (4, 0), (5, 0)] [20, 20] _)
    refine su_iload_n hC dX10_hours_27 rfl (by decide) (?_ : SdS X 28 [(0, 20), (1, 0), (2, 0), (3, 0), (4, 0), (5, 0)] [0, 20, 20] _)
    refine su_iload_n hC dX10_hours_28 rfl (by decide) (?_ : SdS X 29 [(0, 20), (1, 0), (2, 0), (3, 0), (4, 0), (5, 0)] [0, 0, 20, 20] _)
    refine su_iload_n hC dX10_hours_29 rfl (by decide) (?_ : SdS X 30 [(0, 20), (1, 0), (2, 0), (3, 0), (4, 0), (5, 0)] [0, 0, 0, 20, 20] _)
    refine su_iload hC dX10_hours_30 (by decide) (?_ : SdS X 32 [(0, 20), (1, 0), (2, 0), (3, 0), (4, 0), (5, 0)] [0, 0, 0, 0, 20, 20] _)
    refine su_iload hC dX10_hours_32 (by decide) (?_ : SdS X 34 [(0, 20), (1, 0), (2, 0), (3, 0), (4, 0), (5, 0)] [0, 0, 0, 0, 0, 20, 20] _)
    refine su_inv0 (τ := [20]) (τr := [0, 0, 0, 0, 0]) (ci := 10) (q := (RX10, TX10, 45)) hC WG (M_X10_finds _) rfl rfl rfl rfl  rfl rfl wl_7_95 wl_7_97 wp_88 wl_1_10 wl_7_98 hd_X10_finds (by rw [e3]; decide) (by decide) dX10_hours_34 (?_ : SdS X 37 [(0, 20), (1, 0), (2, 0), (3, 0), (4, 0), (5, 0)] [0, 20] _)
    refine su_if_eq (tgt := 47) hC dX10_hours_37 rfl (?_ : SdS X 47 [(0, 20), (1, 0), (2, 0), (3, 0), (4, 0), (5, 0)] [20] _) (?_ : SdS X 40 [(0, 20), (1, 0), (2, 0), (3, 0), (4, 0), (5, 0)] [20] _)
    · refine su_bipush hC dX10_hours_47 (by decide) (?_ : SdS X 49 [(0, 20), (1, 0), (2, 0), (3, 0), (4, 0), (5, 0)] [0, 20] _)
      exact SdS.weak (by decide) (S_49)
    · refine su_aload_n hC 20 dX10_hours_40 rfl (by decide) (by decide) (?_ : SdS X 41 [(0, 20), (1, 0), (2, 0), (3, 0), (4, 0), (5, 0)] [20, 20] _)
      refine su_getF hC (ci := 10) (j := 29) (C := RX10) (T := TX10) (N := 45) rfl rfl (by decide) in_X10 wl_5_193 rfl dX10_hours_41 (?_ : SdS X 44 [(0, 20), (1, 0), (2, 0), (3, 0), (4, 0), (5, 0)] [0, 20] _)
      refine su_goto (tgt := 49) hC dX10_hours_44 rfl (?_ : SdS X 49 [(0, 20), (1, 0), (2, 0), (3, 0), (4, 0), (5, 0)] [0, 20] _)
      exact SdS.weak (by decide) (S_49)
  · refine su_aload_n hC 20 dX10_hours_19 rfl (by decide) (by decide) (?_ : SdS X 20 [(0, 20), (1, 0), (2, 0), (3, 0), (4, 0), (5, 0)] [20] _)
    refine su_iconst hC dX10_hours_20 ⟨by decide, by decide⟩ (?_ : SdS X 21 [(0, 20), (1, 0), (2, 0), (3, 0), (4, 0), (5, 0)] [0, 20] _)
    refine su_inv0 (τ := []) (τr := [0]) (ci := 10) (q := (RX10, TX10, 45)) hC WG (M_X10_refused _) rfl rfl rfl rfl  rfl rfl wl_6_72 wl_6_74 wp_63 wl_1_10 wl_6_75 hd_X10_refused (by rw [e3]; decide) (by decide) dX10_hours_21 (?_ : SdS X 24 [(0, 20), (1, 0), (2, 0), (3, 0), (4, 0), (5, 0)] [0] _)
    exact su_ireturn hC hT dX10_hours_24
theorem hd_X10_hoursOf : yX10_hoursOf.cls ≠ "java/lang/invoke/MethodHandle" ∧ yX10_hoursOf.cls ≠ "java/lang/invoke/VarHandle" ∧ (parseMethodDescriptor yX10_hoursOf.desc).map (fun d => d.parameters.length) = some 1 := by decide +kernel
set_option maxRecDepth 100000 in
set_option maxHeartbeats 4000000 in
theorem M_X10_hoursOf (l : Launch) : MtS l yX10_hoursOf (Cond.code yX10_hoursOf cX10_hoursOf 2 (some .int) :: WALL) { frames := 7, cells := 0, slots := 0, locals := 172 } [20, 0] (some 0) T_X10_hoursOf := by
  refine MtS.mk (B := E_X10_hoursOf) (by decide +kernel) (by decide) (fun _ _ _ hh => hh) ?_
  intro X Q e1 e2 e3 hC hN hT
  subst e1
  have hC : CF X cX10_hoursOf RX10 WALL := hC
  have S_37 : SdS X 37 [(0, 20), (1, 0)] [0, 20] (B_X10_hoursOf_37 Q) := by
    unfold B_X10_hoursOf_37
    refine su_inv0 (τ := []) (τr := [0]) (ci := 10) (q := (RX10, TX10, 45)) hC WG (M_X10_good _) rfl rfl rfl rfl  rfl rfl wl_7_171 wl_7_173 wp_105 wl_1_10 wl_7_174 hd_X10_good (by rw [e3]; decide) (by decide) dX10_hoursOf_37 (?_ : SdS X 40 [(0, 20), (1, 0)] [0] _)
    exact su_ireturn hC hT dX10_hoursOf_40
  refine (?_ : SdS X 0 [(0, 20), (1, 0)] [] (E_X10_hoursOf Q))
  unfold E_X10_hoursOf
  refine su_aload_n hC 20 dX10_hoursOf_0 rfl (by decide) (by decide) (?_ : SdS X 1 [(0, 20), (1, 0)] [20] _)
  refine su_iconst hC dX10_hoursOf_1 ⟨by decide, by decide⟩ (?_ : SdS X 2 [(0, 20), (1, 0)] [0, 20] _)
  refine su_putF hC (ci := 10) (j := 0) (C := RX10) (T := TX10) (N := 45) tyX10 tyX10_ok nmX10 rfl rfl (by decide) in_X10 rfl rfl wl_5_164 rfl dX10_hoursOf_2 (?_ : SdS X 5 [(0, 20), (1, 0)] [] _)
  refine su_aload_n hC 20 dX10_hoursOf_5 rfl (by decide) (by decide) (?_ : SdS X 6 [(0, 20), (1, 0)] [20] _)
  refine su_iload_n hC dX10_hoursOf_6 rfl (by decide) (?_ : SdS X 7 [(0, 20), (1, 0)] [0, 20] _)
  refine su_inv0 (τ := []) (τr := [0]) (ci := 10) (q := (RX10, TX10, 45)) hC WG (M_X10_isOrder _) rfl rfl rfl rfl  rfl rfl wl_7_235 wl_7_237 wp_111 wl_1_10 wl_7_238 hd_X10_isOrder (by rw [e3]; decide) (by decide) dX10_hoursOf_7 (?_ : SdS X 10 [(0, 20), (1, 0)] [0] _)
  refine su_if_ne (tgt := 19) hC dX10_hoursOf_10 rfl (?_ : SdS X 19 [(0, 20), (1, 0)] [] _) (?_ : SdS X 13 [(0, 20), (1, 0)] [] _)
  · refine su_aload_n hC 20 dX10_hoursOf_19 rfl (by decide) (by decide) (?_ : SdS X 20 [(0, 20), (1, 0)] [20] _)
    refine su_aload_n hC 20 dX10_hoursOf_20 rfl (by decide) (by decide) (?_ : SdS X 21 [(0, 20), (1, 0)] [20, 20] _)
    refine su_iload_n hC dX10_hoursOf_21 rfl (by decide) (?_ : SdS X 22 [(0, 20), (1, 0)] [0, 20, 20] _)
    refine su_inv0 (τ := [20]) (τr := [0]) (ci := 10) (q := (RX10, TX10, 45)) hC WG (M_X10_findsOrder _) rfl rfl rfl rfl  rfl rfl wl_7_91 wl_7_93 wp_87 wl_1_10 wl_7_94 hd_X10_findsOrder (by rw [e3]; decide) (by decide) dX10_hoursOf_22 (?_ : SdS X 25 [(0, 20), (1, 0)] [0, 20] _)
    refine su_if_eq (tgt := 35) hC dX10_hoursOf_25 rfl (?_ : SdS X 35 [(0, 20), (1, 0)] [20] _) (?_ : SdS X 28 [(0, 20), (1, 0)] [20] _)
    · refine su_bipush hC dX10_hoursOf_35 (by decide) (?_ : SdS X 37 [(0, 20), (1, 0)] [0, 20] _)
      exact SdS.weak (by decide) (S_37)
    · refine su_aload_n hC 20 dX10_hoursOf_28 rfl (by decide) (by decide) (?_ : SdS X 29 [(0, 20), (1, 0)] [20, 20] _)
      refine su_getF hC (ci := 10) (j := 29) (C := RX10) (T := TX10) (N := 45) rfl rfl (by decide) in_X10 wl_5_193 rfl dX10_hoursOf_29 (?_ : SdS X 32 [(0, 20), (1, 0)] [0, 20] _)
      refine su_goto (tgt := 37) hC dX10_hoursOf_32 rfl (?_ : SdS X 37 [(0, 20), (1, 0)] [0, 20] _)
      exact SdS.weak (by decide) (S_37)
  · refine su_aload_n hC 20 dX10_hoursOf_13 rfl (by decide) (by decide) (?_ : SdS X 14 [(0, 20), (1, 0)] [20] _)
    refine su_iconst hC dX10_hoursOf_14 ⟨by decide, by decide⟩ (?_ : SdS X 15 [(0, 20), (1, 0)] [0, 20] _)
    refine su_inv0 (τ := []) (τr := [0]) (ci := 10) (q := (RX10, TX10, 45)) hC WG (M_X10_refused _) rfl rfl rfl rfl  rfl rfl wl_6_72 wl_6_74 wp_63 wl_1_10 wl_6_75 hd_X10_refused (by rw [e3]; decide) (by decide) dX10_hoursOf_15 (?_ : SdS X 18 [(0, 20), (1, 0)] [0] _)
    exact su_ireturn hC hT dX10_hoursOf_18
theorem wl_5_163 : Cond.methodLink RX10 3 Lib.objectInit ∈ WALL := tb5 (List.mem_of_getElem? (i := 163) rfl) rfl
theorem wl_3_229 : Cond.arrayClass .byte ∈ WALL := tb3 (List.mem_of_getElem? (i := 229) rfl) rfl
theorem wl_5_204 : Cond.fieldLink RX10 49 "NarrowRingsModel" "gone" "[I" ∈ WALL := tb5 (List.mem_of_getElem? (i := 204) rfl) rfl
theorem wl_5_205 : Cond.fieldLink RX10 52 "NarrowRingsModel" "still" "[I" ∈ WALL := tb5 (List.mem_of_getElem? (i := 205) rfl) rfl
theorem hd_X10_init : yX10_init.cls ≠ "java/lang/invoke/MethodHandle" ∧ yX10_init.cls ≠ "java/lang/invoke/VarHandle" ∧ (parseMethodDescriptor yX10_init.desc).map (fun d => d.parameters.length) = some 0 := by decide +kernel
set_option maxRecDepth 100000 in
set_option maxHeartbeats 4000000 in
theorem M_X10_init (l : Launch) : MtS l yX10_init (Cond.code yX10_init cX10_init 1 none :: WALL) { frames := 1, cells := 15, slots := 4863, locals := 20 } [20] none T_X10_init := by
  refine MtS.mk (B := E_X10_init) (by decide +kernel) (by decide) (fun _ _ _ hh => hh) ?_
  intro X Q e1 e2 e3 hC hN hT
  subst e1
  have hC : CF X cX10_init RX10 WALL := hC
  refine (?_ : SdS X 0 [(0, 20)] [] (E_X10_init Q))
  unfold E_X10_init
  refine su_aload_n hC 20 dX10_init_0 rfl (by decide) (by decide) (?_ : SdS X 1 [(0, 20)] [20] _)
  refine su_objInit hC (by decide) wl_5_163 wl_1_29 wl_1_30 (by rw [e3]; decide) (by decide) dX10_init_1 (?_ : SdS X 4 [(0, 20)] [] _)
  refine su_aload_n hC 20 dX10_init_4 rfl (by decide) (by decide) (?_ : SdS X 5 [(0, 20)] [20] _)
  refine su_iconst hC dX10_init_5 ⟨by decide, by decide⟩ (?_ : SdS X 6 [(0, 20)] [0, 20] _)
  refine su_putF hC (ci := 10) (j := 2) (C := RX10) (T := TX10) (N := 45) tyX10 tyX10_ok nmX10 rfl rfl (by decide) in_X10 rfl rfl wl_5_166 rfl dX10_init_6 (?_ : SdS X 9 [(0, 20)] [] _)
  refine su_aload_n hC 20 dX10_init_9 rfl (by decide) (by decide) (?_ : SdS X 10 [(0, 20)] [20] _)
  refine su_sipush hC dX10_init_10 (by decide) (?_ : SdS X 13 [(0, 20)] [0, 20] _)
  refine su_newa hC (atype := .byte) (e := 2) (List.mem_of_getElem? (i := 2) rfl) (fun C z => by cases z) rfl (by decide) wl_3_229 (by rw [e3]) (by rw [e3]) dX10_init_13 (?_ : SdS X 15 [(0, 20)] [102, 20] _)
  refine su_putRF hC (ci := 10) (j := 5) (C := RX10) (T := TX10) (N := 45) tyX10 tyX10_ok nmX10 rfl rfl (by decide) in_X10 rfl rfl rfl hN wl_5_169 rfl dX10_init_15 (?_ : SdS X 18 [(0, 20)] [] _)
  refine su_aload_n hC 20 dX10_init_18 rfl (by decide) (by decide) (?_ : SdS X 19 [(0, 20)] [20] _)
  refine su_bipush hC dX10_init_19 (by decide) (?_ : SdS X 21 [(0, 20)] [0, 20] _)
  refine su_newa hC (atype := .int) (e := 0) (List.mem_of_getElem? (i := 0) rfl) (fun C z => by cases z) rfl (by decide) wl_1_76 (by rw [e3]) (by rw [e3]) dX10_init_21 (?_ : SdS X 23 [(0, 20)] [100, 20] _)
  refine su_putRF hC (ci := 10) (j := 16) (C := RX10) (T := TX10) (N := 45) tyX10 tyX10_ok nmX10 rfl rfl (by decide) in_X10 rfl rfl rfl hN wl_5_180 rfl dX10_init_23 (?_ : SdS X 26 [(0, 20)] [] _)
  refine su_aload_n hC 20 dX10_init_26 rfl (by decide) (by decide) (?_ : SdS X 27 [(0, 20)] [20] _)
  refine su_bipush hC dX10_init_27 (by decide) (?_ : SdS X 29 [(0, 20)] [0, 20] _)
  refine su_newa hC (atype := .long) (e := 1) (List.mem_of_getElem? (i := 1) rfl) (fun C z => by cases z) rfl (by decide) wl_1_199 (by rw [e3]) (by rw [e3]) dX10_init_29 (?_ : SdS X 31 [(0, 20)] [101, 20] _)
  refine su_putRF hC (ci := 10) (j := 24) (C := RX10) (T := TX10) (N := 45) tyX10 tyX10_ok nmX10 rfl rfl (by decide) in_X10 rfl rfl rfl hN wl_5_188 rfl dX10_init_31 (?_ : SdS X 34 [(0, 20)] [] _)
  refine su_aload_n hC 20 dX10_init_34 rfl (by decide) (by decide) (?_ : SdS X 35 [(0, 20)] [20] _)
  refine su_bipush hC dX10_init_35 (by decide) (?_ : SdS X 37 [(0, 20)] [0, 20] _)
  refine su_newa hC (atype := .int) (e := 0) (List.mem_of_getElem? (i := 0) rfl) (fun C z => by cases z) rfl (by decide) wl_1_76 (by rw [e3]) (by rw [e3]) dX10_init_37 (?_ : SdS X 39 [(0, 20)] [100, 20] _)
  refine su_putRF hC (ci := 10) (j := 25) (C := RX10) (T := TX10) (N := 45) tyX10 tyX10_ok nmX10 rfl rfl (by decide) in_X10 rfl rfl rfl hN wl_5_189 rfl dX10_init_39 (?_ : SdS X 42 [(0, 20)] [] _)
  refine su_aload_n hC 20 dX10_init_42 rfl (by decide) (by decide) (?_ : SdS X 43 [(0, 20)] [20] _)
  refine su_bipush hC dX10_init_43 (by decide) (?_ : SdS X 45 [(0, 20)] [0, 20] _)
  refine su_newa hC (atype := .int) (e := 0) (List.mem_of_getElem? (i := 0) rfl) (fun C z => by cases z) rfl (by decide) wl_1_76 (by rw [e3]) (by rw [e3]) dX10_init_45 (?_ : SdS X 47 [(0, 20)] [100, 20] _)
  refine su_putRF hC (ci := 10) (j := 31) (C := RX10) (T := TX10) (N := 45) tyX10 tyX10_ok nmX10 rfl rfl (by decide) in_X10 rfl rfl rfl hN wl_5_195 rfl dX10_init_47 (?_ : SdS X 50 [(0, 20)] [] _)
  refine su_aload_n hC 20 dX10_init_50 rfl (by decide) (by decide) (?_ : SdS X 51 [(0, 20)] [20] _)
  refine su_sipush hC dX10_init_51 (by decide) (?_ : SdS X 54 [(0, 20)] [0, 20] _)
  refine su_newa hC (atype := .int) (e := 0) (List.mem_of_getElem? (i := 0) rfl) (fun C z => by cases z) rfl (by decide) wl_1_76 (by rw [e3]) (by rw [e3]) dX10_init_54 (?_ : SdS X 56 [(0, 20)] [100, 20] _)
  refine su_putRF hC (ci := 10) (j := 32) (C := RX10) (T := TX10) (N := 45) tyX10 tyX10_ok nmX10 rfl rfl (by decide) in_X10 rfl rfl rfl hN wl_5_196 rfl dX10_init_56 (?_ : SdS X 59 [(0, 20)] [] _)
  refine su_aload_n hC 20 dX10_init_59 rfl (by decide) (by decide) (?_ : SdS X 60 [(0, 20)] [20] _)
  refine su_sipush hC dX10_init_60 (by decide) (?_ : SdS X 63 [(0, 20)] [0, 20] _)
  refine su_newa hC (atype := .int) (e := 0) (List.mem_of_getElem? (i := 0) rfl) (fun C z => by cases z) rfl (by decide) wl_1_76 (by rw [e3]) (by rw [e3]) dX10_init_63 (?_ : SdS X 65 [(0, 20)] [100, 20] _)
  refine su_putRF hC (ci := 10) (j := 33) (C := RX10) (T := TX10) (N := 45) tyX10 tyX10_ok nmX10 rfl rfl (by decide) in_X10 rfl rfl rfl hN wl_5_197 rfl dX10_init_65 (?_ : SdS X 68 [(0, 20)] [] _)
  refine su_aload_n hC 20 dX10_init_68 rfl (by decide) (by decide) (?_ : SdS X 69 [(0, 20)] [20] _)
  refine su_bipush hC dX10_init_69 (by decide) (?_ : SdS X 71 [(0, 20)] [0, 20] _)
  refine su_newa hC (atype := .int) (e := 0) (List.mem_of_getElem? (i := 0) rfl) (fun C z => by cases z) rfl (by decide) wl_1_76 (by rw [e3]) (by rw [e3]) dX10_init_71 (?_ : SdS X 73 [(0, 20)] [100, 20] _)
  refine su_putRF hC (ci := 10) (j := 34) (C := RX10) (T := TX10) (N := 45) tyX10 tyX10_ok nmX10 rfl rfl (by decide) in_X10 rfl rfl rfl hN wl_5_198 rfl dX10_init_73 (?_ : SdS X 76 [(0, 20)] [] _)
  refine su_aload_n hC 20 dX10_init_76 rfl (by decide) (by decide) (?_ : SdS X 77 [(0, 20)] [20] _)
  refine su_bipush hC dX10_init_77 (by decide) (?_ : SdS X 79 [(0, 20)] [0, 20] _)
  refine su_newa hC (atype := .int) (e := 0) (List.mem_of_getElem? (i := 0) rfl) (fun C z => by cases z) rfl (by decide) wl_1_76 (by rw [e3]) (by rw [e3]) dX10_init_79 (?_ : SdS X 81 [(0, 20)] [100, 20] _)
  refine su_putRF hC (ci := 10) (j := 35) (C := RX10) (T := TX10) (N := 45) tyX10 tyX10_ok nmX10 rfl rfl (by decide) in_X10 rfl rfl rfl hN wl_5_199 rfl dX10_init_81 (?_ : SdS X 84 [(0, 20)] [] _)
  refine su_aload_n hC 20 dX10_init_84 rfl (by decide) (by decide) (?_ : SdS X 85 [(0, 20)] [20] _)
  refine su_bipush hC dX10_init_85 (by decide) (?_ : SdS X 87 [(0, 20)] [0, 20] _)
  refine su_newa hC (atype := .int) (e := 0) (List.mem_of_getElem? (i := 0) rfl) (fun C z => by cases z) rfl (by decide) wl_1_76 (by rw [e3]) (by rw [e3]) dX10_init_87 (?_ : SdS X 89 [(0, 20)] [100, 20] _)
  refine su_putRF hC (ci := 10) (j := 36) (C := RX10) (T := TX10) (N := 45) tyX10 tyX10_ok nmX10 rfl rfl (by decide) in_X10 rfl rfl rfl hN wl_5_200 rfl dX10_init_89 (?_ : SdS X 92 [(0, 20)] [] _)
  refine su_aload_n hC 20 dX10_init_92 rfl (by decide) (by decide) (?_ : SdS X 93 [(0, 20)] [20] _)
  refine su_bipush hC dX10_init_93 (by decide) (?_ : SdS X 95 [(0, 20)] [0, 20] _)
  refine su_newa hC (atype := .int) (e := 0) (List.mem_of_getElem? (i := 0) rfl) (fun C z => by cases z) rfl (by decide) wl_1_76 (by rw [e3]) (by rw [e3]) dX10_init_95 (?_ : SdS X 97 [(0, 20)] [100, 20] _)
  refine su_putRF hC (ci := 10) (j := 37) (C := RX10) (T := TX10) (N := 45) tyX10 tyX10_ok nmX10 rfl rfl (by decide) in_X10 rfl rfl rfl hN wl_5_201 rfl dX10_init_97 (?_ : SdS X 100 [(0, 20)] [] _)
  refine su_aload_n hC 20 dX10_init_100 rfl (by decide) (by decide) (?_ : SdS X 101 [(0, 20)] [20] _)
  refine su_bipush hC dX10_init_101 (by decide) (?_ : SdS X 103 [(0, 20)] [0, 20] _)
  refine su_newa hC (atype := .int) (e := 0) (List.mem_of_getElem? (i := 0) rfl) (fun C z => by cases z) rfl (by decide) wl_1_76 (by rw [e3]) (by rw [e3]) dX10_init_103 (?_ : SdS X 105 [(0, 20)] [100, 20] _)
  refine su_putRF hC (ci := 10) (j := 40) (C := RX10) (T := TX10) (N := 45) tyX10 tyX10_ok nmX10 rfl rfl (by decide) in_X10 rfl rfl rfl hN wl_5_204 rfl dX10_init_105 (?_ : SdS X 108 [(0, 20)] [] _)
  refine su_aload_n hC 20 dX10_init_108 rfl (by decide) (by decide) (?_ : SdS X 109 [(0, 20)] [20] _)
  refine su_bipush hC dX10_init_109 (by decide) (?_ : SdS X 111 [(0, 20)] [0, 20] _)
  refine su_newa hC (atype := .int) (e := 0) (List.mem_of_getElem? (i := 0) rfl) (fun C z => by cases z) rfl (by decide) wl_1_76 (by rw [e3]) (by rw [e3]) dX10_init_111 (?_ : SdS X 113 [(0, 20)] [100, 20] _)
  refine su_putRF hC (ci := 10) (j := 41) (C := RX10) (T := TX10) (N := 45) tyX10 tyX10_ok nmX10 rfl rfl (by decide) in_X10 rfl rfl rfl hN wl_5_205 rfl dX10_init_113 (?_ : SdS X 116 [(0, 20)] [] _)
  refine su_aload_n hC 20 dX10_init_116 rfl (by decide) (by decide) (?_ : SdS X 117 [(0, 20)] [20] _)
  refine su_sipush hC dX10_init_117 (by decide) (?_ : SdS X 120 [(0, 20)] [0, 20] _)
  refine su_newa hC (atype := .int) (e := 0) (List.mem_of_getElem? (i := 0) rfl) (fun C z => by cases z) rfl (by decide) wl_1_76 (by rw [e3]) (by rw [e3]) dX10_init_120 (?_ : SdS X 122 [(0, 20)] [100, 20] _)
  refine su_putRF hC (ci := 10) (j := 42) (C := RX10) (T := TX10) (N := 45) tyX10 tyX10_ok nmX10 rfl rfl (by decide) in_X10 rfl rfl rfl hN wl_5_206 rfl dX10_init_122 (?_ : SdS X 125 [(0, 20)] [] _)
  refine su_aload_n hC 20 dX10_init_125 rfl (by decide) (by decide) (?_ : SdS X 126 [(0, 20)] [20] _)
  refine su_bipush hC dX10_init_126 (by decide) (?_ : SdS X 128 [(0, 20)] [0, 20] _)
  refine su_newa hC (atype := .int) (e := 0) (List.mem_of_getElem? (i := 0) rfl) (fun C z => by cases z) rfl (by decide) wl_1_76 (by rw [e3]) (by rw [e3]) dX10_init_128 (?_ : SdS X 130 [(0, 20)] [100, 20] _)
  refine su_putRF hC (ci := 10) (j := 43) (C := RX10) (T := TX10) (N := 45) tyX10 tyX10_ok nmX10 rfl rfl (by decide) in_X10 rfl rfl rfl hN wl_5_207 rfl dX10_init_130 (?_ : SdS X 133 [(0, 20)] [] _)
  exact su_return hC hT dX10_init_133
theorem hd_X10_led : yX10_led.cls ≠ "java/lang/invoke/MethodHandle" ∧ yX10_led.cls ≠ "java/lang/invoke/VarHandle" ∧ (parseMethodDescriptor yX10_led.desc).map (fun d => d.parameters.length) = some 1 := by decide +kernel
set_option maxRecDepth 100000 in
set_option maxHeartbeats 4000000 in
theorem M_X10_led (l : Launch) : MtS l yX10_led (Cond.code yX10_led cX10_led 4 (some .int) :: WALL) { frames := 7, cells := 0, slots := 0, locals := 172 } [20, 0] (some 0) T_X10_led := by
  refine MtS.mk (B := E_X10_led) (by decide +kernel) (by decide) (fun _ _ _ hh => hh) ?_
  intro X Q e1 e2 e3 hC hN hT
  subst e1
  have hC : CF X cX10_led RX10 WALL := hC
  have S_54 : SdS X 54 [(0, 20), (1, 0), (2, 0), (3, 0)] [] (B_X10_led_54 Q) := by
    unfold B_X10_led_54
    refine su_aload_n hC 20 dX10_led_54 rfl (by decide) (by decide) (?_ : SdS X 55 [(0, 20), (1, 0), (2, 0), (3, 0)] [20] _)
    refine su_iconst hC dX10_led_55 ⟨by decide, by decide⟩ (?_ : SdS X 56 [(0, 20), (1, 0), (2, 0), (3, 0)] [0, 20] _)
    refine su_putF hC (ci := 10) (j := 0) (C := RX10) (T := TX10) (N := 45) tyX10 tyX10_ok nmX10 rfl rfl (by decide) in_X10 rfl rfl wl_5_164 rfl dX10_led_56 (?_ : SdS X 59 [(0, 20), (1, 0), (2, 0), (3, 0)] [] _)
    refine su_iconst hC dX10_led_59 ⟨by decide, by decide⟩ (?_ : SdS X 60 [(0, 20), (1, 0), (2, 0), (3, 0)] [0] _)
    exact su_ireturn hC hT dX10_led_60
  have S_48 : ∀ (k9 : xK), SdS X 9 [(0, 20), (1, 0), (2, 0), (3, 0)] [] k9 → SdS X 48 [(0, 20), (1, 0), (2, 0), (3, 0)] [] (B_X10_led_48 Q k9) := by
    intro k9 h9
    unfold B_X10_led_48
    refine su_iinc (Γ' := [(0, 20), (1, 0), (2, 0), (3, 0)]) hC dX10_led_48 (by decide) (by rw [e2]; decide) (by decide) (?_ : SdS X 51 [(0, 20), (1, 0), (2, 0), (3, 0)] [] _)
    refine su_goto (tgt := 9) hC dX10_led_51 rfl (?_ : SdS X 9 [(0, 20), (1, 0), (2, 0), (3, 0)] [] _)
    exact SdS.weak (by decide) h9
  have S_9 : SdS X 9 [(0, 20), (1, 0), (2, 0), (3, 0)] [] (L_X10_led_9 Q) := by
    unfold L_X10_led_9
    refine SdS.loop (fun k9 h9 => ?_)
    refine su_aload_n hC 20 dX10_led_9 rfl (by decide) (by decide) (?_ : SdS X 10 [(0, 20), (1, 0), (2, 0), (3, 0)] [20] _)
    refine su_getR hC (ci := 10) (j := 3) (C := RX10) (T := TX10) (N := 45) rfl rfl (by decide) in_X10 wl_5_167 rfl dX10_led_10 (?_ : SdS X 13 [(0, 20), (1, 0), (2, 0), (3, 0)] [19] _)
    refine su_ifnull (tgt := 54) hC (by decide) dX10_led_13 rfl (?_ : SdS X 54 [(0, 20), (1, 0), (2, 0), (3, 0)] [] _) (?_ : SdS X 16 [(0, 20), (1, 0), (2, 0), (3, 0)] [] _)
    · exact SdS.weak (by decide) (S_54)
    · refine su_iload_n hC dX10_led_16 rfl (by decide) (?_ : SdS X 17 [(0, 20), (1, 0), (2, 0), (3, 0)] [0] _)
      refine su_aload_n hC 20 dX10_led_17 rfl (by decide) (by decide) (?_ : SdS X 18 [(0, 20), (1, 0), (2, 0), (3, 0)] [20, 0] _)
      refine su_getR hC (ci := 10) (j := 3) (C := RX10) (T := TX10) (N := 45) rfl rfl (by decide) in_X10 wl_5_167 rfl dX10_led_18 (?_ : SdS X 21 [(0, 20), (1, 0), (2, 0), (3, 0)] [19, 0] _)
      refine su_getFN hC (ci := 9) (j := 4) (C := RX9) (T := TX9) (N := 28) (host := "NarrowRingsModel") rfl rfl (by decide) in_X9 (by decide) rfl dX10_led_21 (?_ : SdS X 24 [(0, 20), (1, 0), (2, 0), (3, 0)] [0, 0] _)
      refine su_icmp_ge (tgt := 54) hC dX10_led_24 rfl (?_ : SdS X 54 [(0, 20), (1, 0), (2, 0), (3, 0)] [] _) (?_ : SdS X 27 [(0, 20), (1, 0), (2, 0), (3, 0)] [] _)
      · exact SdS.weak (by decide) (S_54)
      · refine su_aload_n hC 20 dX10_led_27 rfl (by decide) (by decide) (?_ : SdS X 28 [(0, 20), (1, 0), (2, 0), (3, 0)] [20] _)
        refine su_iload_n hC dX10_led_28 rfl (by decide) (?_ : SdS X 29 [(0, 20), (1, 0), (2, 0), (3, 0)] [0, 20] _)
        refine su_inv0 (τ := []) (τr := [0]) (ci := 10) (q := (RX10, TX10, 45)) hC WG (M_X10_findsOrder _) rfl rfl rfl rfl  rfl rfl wl_7_91 wl_7_93 wp_87 wl_1_10 wl_7_94 hd_X10_findsOrder (by rw [e3]; decide) (by decide) dX10_led_29 (?_ : SdS X 32 [(0, 20), (1, 0), (2, 0), (3, 0)] [0] _)
        refine su_if_eq (tgt := 38) hC dX10_led_32 rfl (?_ : SdS X 38 [(0, 20), (1, 0), (2, 0), (3, 0)] [] _) (?_ : SdS X 35 [(0, 20), (1, 0), (2, 0), (3, 0)] [] _)
        · refine su_iload_n hC dX10_led_38 rfl (by decide) (?_ : SdS X 39 [(0, 20), (1, 0), (2, 0), (3, 0)] [0] _)
          refine su_iload_n hC dX10_led_39 rfl (by decide) (?_ : SdS X 40 [(0, 20), (1, 0), (2, 0), (3, 0)] [0, 0] _)
          refine su_icmp_ne (tgt := 45) hC dX10_led_40 rfl (?_ : SdS X 45 [(0, 20), (1, 0), (2, 0), (3, 0)] [] _) (?_ : SdS X 43 [(0, 20), (1, 0), (2, 0), (3, 0)] [] _)
          · refine su_iinc (Γ' := [(0, 20), (1, 0), (2, 0), (3, 0)]) hC dX10_led_45 (by decide) (by rw [e2]; decide) (by decide) (?_ : SdS X 48 [(0, 20), (1, 0), (2, 0), (3, 0)] [] _)
            exact SdS.weak (by decide) (S_48 k9 h9)
          · refine su_iload_n hC dX10_led_43 rfl (by decide) (?_ : SdS X 44 [(0, 20), (1, 0), (2, 0), (3, 0)] [0] _)
            exact su_ireturn hC hT dX10_led_44
        · refine su_goto (tgt := 48) hC dX10_led_35 rfl (?_ : SdS X 48 [(0, 20), (1, 0), (2, 0), (3, 0)] [] _)
          exact SdS.weak (by decide) (S_48 k9 h9)
  refine (?_ : SdS X 0 [(0, 20), (1, 0)] [] (E_X10_led Q))
  unfold E_X10_led
  refine su_aload_n hC 20 dX10_led_0 rfl (by decide) (by decide) (?_ : SdS X 1 [(0, 20), (1, 0)] [20] _)
  refine su_iconst hC dX10_led_1 ⟨by decide, by decide⟩ (?_ : SdS X 2 [(0, 20), (1, 0)] [0, 20] _)
  refine su_putF hC (ci := 10) (j := 0) (C := RX10) (T := TX10) (N := 45) tyX10 tyX10_ok nmX10 rfl rfl (by decide) in_X10 rfl rfl wl_5_164 rfl dX10_led_2 (?_ : SdS X 5 [(0, 20), (1, 0)] [] _)
  refine su_iconst hC dX10_led_5 ⟨by decide, by decide⟩ (?_ : SdS X 6 [(0, 20), (1, 0)] [0] _)
  refine su_istore_n (Γ' := [(0, 20), (1, 0), (2, 0)]) hC dX10_led_6 rfl (by rw [e2]; decide) (by decide) (?_ : SdS X 7 [(0, 20), (1, 0), (2, 0)] [] _)
  refine su_iconst hC dX10_led_7 ⟨by decide, by decide⟩ (?_ : SdS X 8 [(0, 20), (1, 0), (2, 0)] [0] _)
  refine su_istore_n (Γ' := [(0, 20), (1, 0), (2, 0), (3, 0)]) hC dX10_led_8 rfl (by rw [e2]; decide) (by decide) (?_ : SdS X 9 [(0, 20), (1, 0), (2, 0), (3, 0)] [] _)
  exact SdS.weak (by decide) (S_9)
theorem hd_X10_load : yX10_load.cls ≠ "java/lang/invoke/MethodHandle" ∧ yX10_load.cls ≠ "java/lang/invoke/VarHandle" ∧ (parseMethodDescriptor yX10_load.desc).map (fun d => d.parameters.length) = some 2 := by decide +kernel
set_option maxRecDepth 100000 in
set_option maxHeartbeats 4000000 in
theorem M_X10_load (l : Launch) : MtS l yX10_load (Cond.code yX10_load cX10_load 4 (some .int) :: WALL) { frames := 1, cells := 0, slots := 0, locals := 22 } [20, 0, 0] (some 0) T_X10_load := by
  refine MtS.mk (B := E_X10_load) (by decide +kernel) (by decide) (fun _ _ _ hh => hh) ?_
  intro X Q e1 e2 e3 hC hN hT
  subst e1
  have hC : CF X cX10_load RX10 WALL := hC
  have S_34 : SdS X 34 [(0, 20), (1, 0), (2, 0)] [] (B_X10_load_34 Q) := by
    unfold B_X10_load_34
    refine su_aload_n hC 20 dX10_load_34 rfl (by decide) (by decide) (?_ : SdS X 35 [(0, 20), (1, 0), (2, 0)] [20] _)
    refine su_iconst hC dX10_load_35 ⟨by decide, by decide⟩ (?_ : SdS X 36 [(0, 20), (1, 0), (2, 0)] [0, 20] _)
    refine su_inv0 (τ := []) (τr := [0]) (ci := 10) (q := (RX10, TX10, 45)) hC WG (M_X10_refused _) rfl rfl rfl rfl  rfl rfl wl_6_72 wl_6_74 wp_63 wl_1_10 wl_6_75 hd_X10_refused (by rw [e3]; decide) (by decide) dX10_load_36 (?_ : SdS X 39 [(0, 20), (1, 0), (2, 0)] [0] _)
    exact su_ireturn hC hT dX10_load_39
  have S_175 : SdS X 175 [(0, 20), (1, 0), (2, 0), (3, 0)] [0, 20] (B_X10_load_175 Q) := by
    unfold B_X10_load_175
    refine su_inv0 (τ := []) (τr := [0]) (ci := 10) (q := (RX10, TX10, 45)) hC WG (M_X10_good _) rfl rfl rfl rfl  rfl rfl wl_7_171 wl_7_173 wp_105 wl_1_10 wl_7_174 hd_X10_good (by rw [e3]; decide) (by decide) dX10_load_175 (?_ : SdS X 178 [(0, 20), (1, 0), (2, 0), (3, 0)] [0] _)
    exact su_ireturn hC hT dX10_load_178
  have S_163 : SdS X 163 [(0, 20), (1, 0), (2, 0), (3, 0)] [20] (B_X10_load_163 Q) := by
    unfold B_X10_load_163
    refine su_aload_n hC 20 dX10_load_163 rfl (by decide) (by decide) (?_ : SdS X 164 [(0, 20), (1, 0), (2, 0), (3, 0)] [20, 20] _)
    refine su_getR hC (ci := 10) (j := 32) (C := RX10) (T := TX10) (N := 45) rfl rfl (by decide) in_X10 wl_5_196 rfl dX10_load_164 (?_ : SdS X 167 [(0, 20), (1, 0), (2, 0), (3, 0)] [100, 20] _)
    refine su_iload_n hC dX10_load_167 rfl (by decide) (?_ : SdS X 168 [(0, 20), (1, 0), (2, 0), (3, 0)] [0, 100, 20] _)
    refine su_iconst hC dX10_load_168 ⟨by decide, by decide⟩ (?_ : SdS X 169 [(0, 20), (1, 0), (2, 0), (3, 0)] [0, 0, 100, 20] _)
    refine su_iadd hC dX10_load_169 (?_ : SdS X 170 [(0, 20), (1, 0), (2, 0), (3, 0)] [0, 100, 20] _)
    refine su_iaload hC dX10_load_170 (?_ : SdS X 171 [(0, 20), (1, 0), (2, 0), (3, 0)] [0, 20] _)
    refine su_goto (tgt := 175) hC dX10_load_171 rfl (?_ : SdS X 175 [(0, 20), (1, 0), (2, 0), (3, 0)] [0, 20] _)
    exact SdS.weak (by decide) (S_175)
  refine (?_ : SdS X 0 [(0, 20), (1, 0), (2, 0)] [] (E_X10_load Q))
  unfold E_X10_load
  refine su_aload_n hC 20 dX10_load_0 rfl (by decide) (by decide) (?_ : SdS X 1 [(0, 20), (1, 0), (2, 0)] [20] _)
  refine su_iconst hC dX10_load_1 ⟨by decide, by decide⟩ (?_ : SdS X 2 [(0, 20), (1, 0), (2, 0)] [0, 20] _)
  refine su_putF hC (ci := 10) (j := 0) (C := RX10) (T := TX10) (N := 45) tyX10 tyX10_ok nmX10 rfl rfl (by decide) in_X10 rfl rfl wl_5_164 rfl dX10_load_2 (?_ : SdS X 5 [(0, 20), (1, 0), (2, 0)] [] _)
  refine su_aload_n hC 20 dX10_load_5 rfl (by decide) (by decide) (?_ : SdS X 6 [(0, 20), (1, 0), (2, 0)] [20] _)
  refine su_getR hC (ci := 10) (j := 3) (C := RX10) (T := TX10) (N := 45) rfl rfl (by decide) in_X10 wl_5_167 rfl dX10_load_6 (?_ : SdS X 9 [(0, 20), (1, 0), (2, 0)] [19] _)
  refine su_ifnull (tgt := 34) hC (by decide) dX10_load_9 rfl (?_ : SdS X 34 [(0, 20), (1, 0), (2, 0)] [] _) (?_ : SdS X 12 [(0, 20), (1, 0), (2, 0)] [] _)
  · exact SdS.weak (by decide) (S_34)
  · refine su_iload_n hC dX10_load_12 rfl (by decide) (?_ : SdS X 13 [(0, 20), (1, 0), (2, 0)] [0] _)
    refine su_if_lt (tgt := 34) hC dX10_load_13 rfl (?_ : SdS X 34 [(0, 20), (1, 0), (2, 0)] [] _) (?_ : SdS X 16 [(0, 20), (1, 0), (2, 0)] [] _)
    · exact SdS.weak (by decide) (S_34)
    · refine su_iload_n hC dX10_load_16 rfl (by decide) (?_ : SdS X 17 [(0, 20), (1, 0), (2, 0)] [0] _)
      refine su_aload_n hC 20 dX10_load_17 rfl (by decide) (by decide) (?_ : SdS X 18 [(0, 20), (1, 0), (2, 0)] [20, 0] _)
      refine su_getF hC (ci := 10) (j := 38) (C := RX10) (T := TX10) (N := 45) rfl rfl (by decide) in_X10 wl_5_202 rfl dX10_load_18 (?_ : SdS X 21 [(0, 20), (1, 0), (2, 0)] [0, 0] _)
      refine su_icmp_ge (tgt := 34) hC dX10_load_21 rfl (?_ : SdS X 34 [(0, 20), (1, 0), (2, 0)] [] _) (?_ : SdS X 24 [(0, 20), (1, 0), (2, 0)] [] _)
      · exact SdS.weak (by decide) (S_34)
      · refine su_iload_n hC dX10_load_24 rfl (by decide) (?_ : SdS X 25 [(0, 20), (1, 0), (2, 0)] [0] _)
        refine su_iconst hC dX10_load_25 ⟨by decide, by decide⟩ (?_ : SdS X 26 [(0, 20), (1, 0), (2, 0)] [0, 0] _)
        refine su_bipush hC dX10_load_26 (by decide) (?_ : SdS X 28 [(0, 20), (1, 0), (2, 0)] [0, 0, 0] _)
        refine su_invs (τ := []) (τs := [0, 0, 0]) hC false "" WG (M_X10_in _) rfl rfl rfl rfl wl_6_238 wl_6_239 wl_1_10 wl_7_0 hd_X10_in (by rw [e3]; decide) (by decide) dX10_load_28 (?_ : SdS X 31 [(0, 20), (1, 0), (2, 0)] [0] _)
        refine su_if_ne (tgt := 40) hC dX10_load_31 rfl (?_ : SdS X 40 [(0, 20), (1, 0), (2, 0)] [] _) (?_ : SdS X 34 [(0, 20), (1, 0), (2, 0)] [] _)
        · refine su_bipush hC dX10_load_40 (by decide) (?_ : SdS X 42 [(0, 20), (1, 0), (2, 0)] [0] _)
          refine su_iload_n hC dX10_load_42 rfl (by decide) (?_ : SdS X 43 [(0, 20), (1, 0), (2, 0)] [0, 0] _)
          refine su_imul hC dX10_load_43 (?_ : SdS X 44 [(0, 20), (1, 0), (2, 0)] [0] _)
          refine su_istore_n (Γ' := [(0, 20), (1, 0), (2, 0), (3, 0)]) hC dX10_load_44 rfl (by rw [e2]; decide) (by decide) (?_ : SdS X 45 [(0, 20), (1, 0), (2, 0), (3, 0)] [] _)
          refine su_iload_n hC dX10_load_45 rfl (by decide) (?_ : SdS X 46 [(0, 20), (1, 0), (2, 0), (3, 0)] [0] _)
          refine su_tsw (td := 205) hC dX10_load_46 rfl rfl ?_ (?_ : SdS X 205 [(0, 20), (1, 0), (2, 0), (3, 0)] [] _)
          · intro j kj hj
            match j, hj with
            | 0, hj =>
              cases hj
              refine ⟨_, 88, rfl, rfl, (?_ : SdS X 88 [(0, 20), (1, 0), (2, 0), (3, 0)] [] _)⟩
              refine su_aload_n hC 20 dX10_load_88 rfl (by decide) (by decide) (?_ : SdS X 89 [(0, 20), (1, 0), (2, 0), (3, 0)] [20] _)
              refine su_aload_n hC 20 dX10_load_89 rfl (by decide) (by decide) (?_ : SdS X 90 [(0, 20), (1, 0), (2, 0), (3, 0)] [20, 20] _)
              refine su_getR hC (ci := 10) (j := 34) (C := RX10) (T := TX10) (N := 45) rfl rfl (by decide) in_X10 wl_5_198 rfl dX10_load_90 (?_ : SdS X 93 [(0, 20), (1, 0), (2, 0), (3, 0)] [100, 20] _)
              refine su_iload_n hC dX10_load_93 rfl (by decide) (?_ : SdS X 94 [(0, 20), (1, 0), (2, 0), (3, 0)] [0, 100, 20] _)
              refine su_iaload hC dX10_load_94 (?_ : SdS X 95 [(0, 20), (1, 0), (2, 0), (3, 0)] [0, 20] _)
              refine su_inv0 (τ := []) (τr := [0]) (ci := 10) (q := (RX10, TX10, 45)) hC WG (M_X10_good _) rfl rfl rfl rfl  rfl rfl wl_7_171 wl_7_173 wp_105 wl_1_10 wl_7_174 hd_X10_good (by rw [e3]; decide) (by decide) dX10_load_95 (?_ : SdS X 98 [(0, 20), (1, 0), (2, 0), (3, 0)] [0] _)
              exact su_ireturn hC hT dX10_load_98
            | 1, hj =>
              cases hj
              refine ⟨_, 99, rfl, rfl, (?_ : SdS X 99 [(0, 20), (1, 0), (2, 0), (3, 0)] [] _)⟩
              refine su_aload_n hC 20 dX10_load_99 rfl (by decide) (by decide) (?_ : SdS X 100 [(0, 20), (1, 0), (2, 0), (3, 0)] [20] _)
              refine su_aload_n hC 20 dX10_load_100 rfl (by decide) (by decide) (?_ : SdS X 101 [(0, 20), (1, 0), (2, 0), (3, 0)] [20, 20] _)
              refine su_getR hC (ci := 10) (j := 32) (C := RX10) (T := TX10) (N := 45) rfl rfl (by decide) in_X10 wl_5_196 rfl dX10_load_101 (?_ : SdS X 104 [(0, 20), (1, 0), (2, 0), (3, 0)] [100, 20] _)
              refine su_iload_n hC dX10_load_104 rfl (by decide) (?_ : SdS X 105 [(0, 20), (1, 0), (2, 0), (3, 0)] [0, 100, 20] _)
              refine su_iconst hC dX10_load_105 ⟨by decide, by decide⟩ (?_ : SdS X 106 [(0, 20), (1, 0), (2, 0), (3, 0)] [0, 0, 100, 20] _)
              refine su_iadd hC dX10_load_106 (?_ : SdS X 107 [(0, 20), (1, 0), (2, 0), (3, 0)] [0, 100, 20] _)
              refine su_iaload hC dX10_load_107 (?_ : SdS X 108 [(0, 20), (1, 0), (2, 0), (3, 0)] [0, 20] _)
              refine su_inv0 (τ := []) (τr := [0]) (ci := 10) (q := (RX10, TX10, 45)) hC WG (M_X10_good _) rfl rfl rfl rfl  rfl rfl wl_7_171 wl_7_173 wp_105 wl_1_10 wl_7_174 hd_X10_good (by rw [e3]; decide) (by decide) dX10_load_108 (?_ : SdS X 111 [(0, 20), (1, 0), (2, 0), (3, 0)] [0] _)
              exact su_ireturn hC hT dX10_load_111
            | 2, hj =>
              cases hj
              refine ⟨_, 112, rfl, rfl, (?_ : SdS X 112 [(0, 20), (1, 0), (2, 0), (3, 0)] [] _)⟩
              refine su_aload_n hC 20 dX10_load_112 rfl (by decide) (by decide) (?_ : SdS X 113 [(0, 20), (1, 0), (2, 0), (3, 0)] [20] _)
              refine su_aload_n hC 20 dX10_load_113 rfl (by decide) (by decide) (?_ : SdS X 114 [(0, 20), (1, 0), (2, 0), (3, 0)] [20, 20] _)
              refine su_getR hC (ci := 10) (j := 32) (C := RX10) (T := TX10) (N := 45) rfl rfl (by decide) in_X10 wl_5_196 rfl dX10_load_114 (?_ : SdS X 117 [(0, 20), (1, 0), (2, 0), (3, 0)] [100, 20] _)
              refine su_iload_n hC dX10_load_117 rfl (by decide) (?_ : SdS X 118 [(0, 20), (1, 0), (2, 0), (3, 0)] [0, 100, 20] _)
              refine su_iconst hC dX10_load_118 ⟨by decide, by decide⟩ (?_ : SdS X 119 [(0, 20), (1, 0), (2, 0), (3, 0)] [0, 0, 100, 20] _)
              refine su_iadd hC dX10_load_119 (?_ : SdS X 120 [(0, 20), (1, 0), (2, 0), (3, 0)] [0, 100, 20] _)
              refine su_iaload hC dX10_load_120 (?_ : SdS X 121 [(0, 20), (1, 0), (2, 0), (3, 0)] [0, 20] _)
              refine su_inv0 (τ := []) (τr := [0]) (ci := 10) (q := (RX10, TX10, 45)) hC WG (M_X10_good _) rfl rfl rfl rfl  rfl rfl wl_7_171 wl_7_173 wp_105 wl_1_10 wl_7_174 hd_X10_good (by rw [e3]; decide) (by decide) dX10_load_121 (?_ : SdS X 124 [(0, 20), (1, 0), (2, 0), (3, 0)] [0] _)
              exact su_ireturn hC hT dX10_load_124
            | 3, hj =>
              cases hj
              refine ⟨_, 125, rfl, rfl, (?_ : SdS X 125 [(0, 20), (1, 0), (2, 0), (3, 0)] [] _)⟩
              refine su_aload_n hC 20 dX10_load_125 rfl (by decide) (by decide) (?_ : SdS X 126 [(0, 20), (1, 0), (2, 0), (3, 0)] [20] _)
              refine su_aload_n hC 20 dX10_load_126 rfl (by decide) (by decide) (?_ : SdS X 127 [(0, 20), (1, 0), (2, 0), (3, 0)] [20, 20] _)
              refine su_getR hC (ci := 10) (j := 32) (C := RX10) (T := TX10) (N := 45) rfl rfl (by decide) in_X10 wl_5_196 rfl dX10_load_127 (?_ : SdS X 130 [(0, 20), (1, 0), (2, 0), (3, 0)] [100, 20] _)
              refine su_iload_n hC dX10_load_130 rfl (by decide) (?_ : SdS X 131 [(0, 20), (1, 0), (2, 0), (3, 0)] [0, 100, 20] _)
              refine su_iconst hC dX10_load_131 ⟨by decide, by decide⟩ (?_ : SdS X 132 [(0, 20), (1, 0), (2, 0), (3, 0)] [0, 0, 100, 20] _)
              refine su_iadd hC dX10_load_132 (?_ : SdS X 133 [(0, 20), (1, 0), (2, 0), (3, 0)] [0, 100, 20] _)
              refine su_iaload hC dX10_load_133 (?_ : SdS X 134 [(0, 20), (1, 0), (2, 0), (3, 0)] [0, 20] _)
              refine su_inv0 (τ := []) (τr := [0]) (ci := 10) (q := (RX10, TX10, 45)) hC WG (M_X10_good _) rfl rfl rfl rfl  rfl rfl wl_7_171 wl_7_173 wp_105 wl_1_10 wl_7_174 hd_X10_good (by rw [e3]; decide) (by decide) dX10_load_134 (?_ : SdS X 137 [(0, 20), (1, 0), (2, 0), (3, 0)] [0] _)
              exact su_ireturn hC hT dX10_load_137
            | 4, hj =>
              cases hj
              refine ⟨_, 138, rfl, rfl, (?_ : SdS X 138 [(0, 20), (1, 0), (2, 0), (3, 0)] [] _)⟩
              refine su_aload_n hC 20 dX10_load_138 rfl (by decide) (by decide) (?_ : SdS X 139 [(0, 20), (1, 0), (2, 0), (3, 0)] [20] _)
              refine su_aload_n hC 20 dX10_load_139 rfl (by decide) (by decide) (?_ : SdS X 140 [(0, 20), (1, 0), (2, 0), (3, 0)] [20, 20] _)
              refine su_getR hC (ci := 10) (j := 32) (C := RX10) (T := TX10) (N := 45) rfl rfl (by decide) in_X10 wl_5_196 rfl dX10_load_140 (?_ : SdS X 143 [(0, 20), (1, 0), (2, 0), (3, 0)] [100, 20] _)
              refine su_iload_n hC dX10_load_143 rfl (by decide) (?_ : SdS X 144 [(0, 20), (1, 0), (2, 0), (3, 0)] [0, 100, 20] _)
              refine su_iconst hC dX10_load_144 ⟨by decide, by decide⟩ (?_ : SdS X 145 [(0, 20), (1, 0), (2, 0), (3, 0)] [0, 0, 100, 20] _)
              refine su_iadd hC dX10_load_145 (?_ : SdS X 146 [(0, 20), (1, 0), (2, 0), (3, 0)] [0, 100, 20] _)
              refine su_iaload hC dX10_load_146 (?_ : SdS X 147 [(0, 20), (1, 0), (2, 0), (3, 0)] [0, 20] _)
              refine su_iconst hC dX10_load_147 ⟨by decide, by decide⟩ (?_ : SdS X 148 [(0, 20), (1, 0), (2, 0), (3, 0)] [0, 0, 20] _)
              refine su_icmp_eq (tgt := 163) hC dX10_load_148 rfl (?_ : SdS X 163 [(0, 20), (1, 0), (2, 0), (3, 0)] [20] _) (?_ : SdS X 151 [(0, 20), (1, 0), (2, 0), (3, 0)] [20] _)
              · exact SdS.weak (by decide) (S_163)
              · refine su_aload_n hC 20 dX10_load_151 rfl (by decide) (by decide) (?_ : SdS X 152 [(0, 20), (1, 0), (2, 0), (3, 0)] [20, 20] _)
                refine su_getR hC (ci := 10) (j := 32) (C := RX10) (T := TX10) (N := 45) rfl rfl (by decide) in_X10 wl_5_196 rfl dX10_load_152 (?_ : SdS X 155 [(0, 20), (1, 0), (2, 0), (3, 0)] [100, 20] _)
                refine su_iload_n hC dX10_load_155 rfl (by decide) (?_ : SdS X 156 [(0, 20), (1, 0), (2, 0), (3, 0)] [0, 100, 20] _)
                refine su_iconst hC dX10_load_156 ⟨by decide, by decide⟩ (?_ : SdS X 157 [(0, 20), (1, 0), (2, 0), (3, 0)] [0, 0, 100, 20] _)
                refine su_iadd hC dX10_load_157 (?_ : SdS X 158 [(0, 20), (1, 0), (2, 0), (3, 0)] [0, 100, 20] _)
                refine su_iaload hC dX10_load_158 (?_ : SdS X 159 [(0, 20), (1, 0), (2, 0), (3, 0)] [0, 20] _)
                refine su_iconst hC dX10_load_159 ⟨by decide, by decide⟩ (?_ : SdS X 160 [(0, 20), (1, 0), (2, 0), (3, 0)] [0, 0, 20] _)
                refine su_icmp_ne (tgt := 174) hC dX10_load_160 rfl (?_ : SdS X 174 [(0, 20), (1, 0), (2, 0), (3, 0)] [20] _) (?_ : SdS X 163 [(0, 20), (1, 0), (2, 0), (3, 0)] [20] _)
                · refine su_iconst hC dX10_load_174 ⟨by decide, by decide⟩ (?_ : SdS X 175 [(0, 20), (1, 0), (2, 0), (3, 0)] [0, 20] _)
                  exact SdS.weak (by decide) (S_175)
                · exact SdS.weak (by decide) (S_163)
            | 5, hj =>
              cases hj
              refine ⟨_, 179, rfl, rfl, (?_ : SdS X 179 [(0, 20), (1, 0), (2, 0), (3, 0)] [] _)⟩
              refine su_aload_n hC 20 dX10_load_179 rfl (by decide) (by decide) (?_ : SdS X 180 [(0, 20), (1, 0), (2, 0), (3, 0)] [20] _)
              refine su_aload_n hC 20 dX10_load_180 rfl (by decide) (by decide) (?_ : SdS X 181 [(0, 20), (1, 0), (2, 0), (3, 0)] [20, 20] _)
              refine su_getR hC (ci := 10) (j := 32) (C := RX10) (T := TX10) (N := 45) rfl rfl (by decide) in_X10 wl_5_196 rfl dX10_load_181 (?_ : SdS X 184 [(0, 20), (1, 0), (2, 0), (3, 0)] [100, 20] _)
              refine su_iload_n hC dX10_load_184 rfl (by decide) (?_ : SdS X 185 [(0, 20), (1, 0), (2, 0), (3, 0)] [0, 100, 20] _)
              refine su_iconst hC dX10_load_185 ⟨by decide, by decide⟩ (?_ : SdS X 186 [(0, 20), (1, 0), (2, 0), (3, 0)] [0, 0, 100, 20] _)
              refine su_iadd hC dX10_load_186 (?_ : SdS X 187 [(0, 20), (1, 0), (2, 0), (3, 0)] [0, 100, 20] _)
              refine su_iaload hC dX10_load_187 (?_ : SdS X 188 [(0, 20), (1, 0), (2, 0), (3, 0)] [0, 20] _)
              refine su_inv0 (τ := []) (τr := [0]) (ci := 10) (q := (RX10, TX10, 45)) hC WG (M_X10_good _) rfl rfl rfl rfl  rfl rfl wl_7_171 wl_7_173 wp_105 wl_1_10 wl_7_174 hd_X10_good (by rw [e3]; decide) (by decide) dX10_load_188 (?_ : SdS X 191 [(0, 20), (1, 0), (2, 0), (3, 0)] [0] _)
              exact su_ireturn hC hT dX10_load_191
            | 6, hj =>
              cases hj
              refine ⟨_, 192, rfl, rfl, (?_ : SdS X 192 [(0, 20), (1, 0), (2, 0), (3, 0)] [] _)⟩
              refine su_aload_n hC 20 dX10_load_192 rfl (by decide) (by decide) (?_ : SdS X 193 [(0, 20), (1, 0), (2, 0), (3, 0)] [20] _)
              refine su_aload_n hC 20 dX10_load_193 rfl (by decide) (by decide) (?_ : SdS X 194 [(0, 20), (1, 0), (2, 0), (3, 0)] [20, 20] _)
              refine su_getR hC (ci := 10) (j := 32) (C := RX10) (T := TX10) (N := 45) rfl rfl (by decide) in_X10 wl_5_196 rfl dX10_load_194 (?_ : SdS X 197 [(0, 20), (1, 0), (2, 0), (3, 0)] [100, 20] _)
              refine su_iload_n hC dX10_load_197 rfl (by decide) (?_ : SdS X 198 [(0, 20), (1, 0), (2, 0), (3, 0)] [0, 100, 20] _)
              refine su_iconst hC dX10_load_198 ⟨by decide, by decide⟩ (?_ : SdS X 199 [(0, 20), (1, 0), (2, 0), (3, 0)] [0, 0, 100, 20] _)
              refine su_iadd hC dX10_load_199 (?_ : SdS X 200 [(0, 20), (1, 0), (2, 0), (3, 0)] [0, 100, 20] _)
              refine su_iaload hC dX10_load_200 (?_ : SdS X 201 [(0, 20), (1, 0), (2, 0), (3, 0)] [0, 20] _)
              refine su_inv0 (τ := []) (τr := [0]) (ci := 10) (q := (RX10, TX10, 45)) hC WG (M_X10_good _) rfl rfl rfl rfl  rfl rfl wl_7_171 wl_7_173 wp_105 wl_1_10 wl_7_174 hd_X10_good (by rw [e3]; decide) (by decide) dX10_load_201 (?_ : SdS X 204 [(0, 20), (1, 0), (2, 0), (3, 0)] [0] _)
              exact su_ireturn hC hT dX10_load_204
            | j + 7, hj => exact absurd hj (by simp)
          · refine su_aload_n hC 20 dX10_load_205 rfl (by decide) (by decide) (?_ : SdS X 206 [(0, 20), (1, 0), (2, 0), (3, 0)] [20] _)
            refine su_aload_n hC 20 dX10_load_206 rfl (by decide) (by decide) (?_ : SdS X 207 [(0, 20), (1, 0), (2, 0), (3, 0)] [20, 20] _)
            refine su_getR hC (ci := 10) (j := 32) (C := RX10) (T := TX10) (N := 45) rfl rfl (by decide) in_X10 wl_5_196 rfl dX10_load_207 (?_ : SdS X 210 [(0, 20), (1, 0), (2, 0), (3, 0)] [100, 20] _)
            refine su_iload_n hC dX10_load_210 rfl (by decide) (?_ : SdS X 211 [(0, 20), (1, 0), (2, 0), (3, 0)] [0, 100, 20] _)
            refine su_bipush hC dX10_load_211 (by decide) (?_ : SdS X 213 [(0, 20), (1, 0), (2, 0), (3, 0)] [0, 0, 100, 20] _)
            refine su_iadd hC dX10_load_213 (?_ : SdS X 214 [(0, 20), (1, 0), (2, 0), (3, 0)] [0, 100, 20] _)
            refine su_iaload hC dX10_load_214 (?_ : SdS X 215 [(0, 20), (1, 0), (2, 0), (3, 0)] [0, 20] _)
            refine su_inv0 (τ := []) (τr := [0]) (ci := 10) (q := (RX10, TX10, 45)) hC WG (M_X10_good _) rfl rfl rfl rfl  rfl rfl wl_7_171 wl_7_173 wp_105 wl_1_10 wl_7_174 hd_X10_good (by rw [e3]; decide) (by decide) dX10_load_215 (?_ : SdS X 218 [(0, 20), (1, 0), (2, 0), (3, 0)] [0] _)
            exact su_ireturn hC hT dX10_load_218
        · exact SdS.weak (by decide) (S_34)
theorem hd_X10_loads : yX10_loads.cls ≠ "java/lang/invoke/MethodHandle" ∧ yX10_loads.cls ≠ "java/lang/invoke/VarHandle" ∧ (parseMethodDescriptor yX10_loads.desc).map (fun d => d.parameters.length) = some 0 := by decide +kernel
set_option maxRecDepth 100000 in
set_option maxHeartbeats 4000000 in
theorem M_X10_loads (l : Launch) : MtS l yX10_loads (Cond.code yX10_loads cX10_loads 1 (some .int) :: WALL) { frames := 1, cells := 0, slots := 0, locals := 21 } [20] (some 0) T_X10_loads := by
  refine MtS.mk (B := E_X10_loads) (by decide +kernel) (by decide) (fun _ _ _ hh => hh) ?_
  intro X Q e1 e2 e3 hC hN hT
  subst e1
  have hC : CF X cX10_loads RX10 WALL := hC
  have S_28 : SdS X 28 [(0, 20)] [0] (B_X10_loads_28 Q) := by
    unfold B_X10_loads_28
    exact su_ireturn hC hT dX10_loads_28
  refine (?_ : SdS X 0 [(0, 20)] [] (E_X10_loads Q))
  unfold E_X10_loads
  refine su_aload_n hC 20 dX10_loads_0 rfl (by decide) (by decide) (?_ : SdS X 1 [(0, 20)] [20] _)
  refine su_iconst hC dX10_loads_1 ⟨by decide, by decide⟩ (?_ : SdS X 2 [(0, 20)] [0, 20] _)
  refine su_putF hC (ci := 10) (j := 0) (C := RX10) (T := TX10) (N := 45) tyX10 tyX10_ok nmX10 rfl rfl (by decide) in_X10 rfl rfl wl_5_164 rfl dX10_loads_2 (?_ : SdS X 5 [(0, 20)] [] _)
  refine su_aload_n hC 20 dX10_loads_5 rfl (by decide) (by decide) (?_ : SdS X 6 [(0, 20)] [20] _)
  refine su_getR hC (ci := 10) (j := 3) (C := RX10) (T := TX10) (N := 45) rfl rfl (by decide) in_X10 wl_5_167 rfl dX10_loads_6 (?_ : SdS X 9 [(0, 20)] [19] _)
  refine su_ifnonnull (tgt := 20) hC (by decide) dX10_loads_9 rfl (?_ : SdS X 20 [(0, 20)] [] _) (?_ : SdS X 12 [(0, 20)] [] _)
  · refine su_aload_n hC 20 dX10_loads_20 rfl (by decide) (by decide) (?_ : SdS X 21 [(0, 20)] [20] _)
    refine su_aload_n hC 20 dX10_loads_21 rfl (by decide) (by decide) (?_ : SdS X 22 [(0, 20)] [20, 20] _)
    refine su_getF hC (ci := 10) (j := 38) (C := RX10) (T := TX10) (N := 45) rfl rfl (by decide) in_X10 wl_5_202 rfl dX10_loads_22 (?_ : SdS X 25 [(0, 20)] [0, 20] _)
    refine su_inv0 (τ := []) (τr := [0]) (ci := 10) (q := (RX10, TX10, 45)) hC WG (M_X10_good _) rfl rfl rfl rfl  rfl rfl wl_7_171 wl_7_173 wp_105 wl_1_10 wl_7_174 hd_X10_good (by rw [e3]; decide) (by decide) dX10_loads_25 (?_ : SdS X 28 [(0, 20)] [0] _)
    exact SdS.weak (by decide) (S_28)
  · refine su_aload_n hC 20 dX10_loads_12 rfl (by decide) (by decide) (?_ : SdS X 13 [(0, 20)] [20] _)
    refine su_iconst hC dX10_loads_13 ⟨by decide, by decide⟩ (?_ : SdS X 14 [(0, 20)] [0, 20] _)
    refine su_inv0 (τ := []) (τr := [0]) (ci := 10) (q := (RX10, TX10, 45)) hC WG (M_X10_refused _) rfl rfl rfl rfl  rfl rfl wl_6_72 wl_6_74 wp_63 wl_1_10 wl_6_75 hd_X10_refused (by rw [e3]; decide) (by decide) dX10_loads_14 (?_ : SdS X 17 [(0, 20)] [0] _)
    refine su_goto (tgt := 28) hC dX10_loads_17 rfl (?_ : SdS X 28 [(0, 20)] [0] _)
    exact SdS.weak (by decide) (S_28)
theorem wl_8_7 : Cond.methodLink RX10 462 yX10_bestLoads ∈ WALL := tb8 (List.mem_of_getElem? (i := 7) rfl) rfl
theorem wl_8_9 : Cond.instanceMethod yX10_bestLoads ∈ WALL := tb8 (List.mem_of_getElem? (i := 9) rfl) rfl
theorem wp_112 : Cond.selects RX10 yX10_bestLoads yX10_bestLoads ∈ WALL := tbS (List.mem_of_getElem? (i := 112) rfl)
theorem wl_8_10 : Cond.code yX10_bestLoads cX10_bestLoads 2 (some .int) ∈ WALL := tb8 (List.mem_of_getElem? (i := 10) rfl) rfl
theorem hd_X10_loadsOf : yX10_loadsOf.cls ≠ "java/lang/invoke/MethodHandle" ∧ yX10_loadsOf.cls ≠ "java/lang/invoke/VarHandle" ∧ (parseMethodDescriptor yX10_loadsOf.desc).map (fun d => d.parameters.length) = some 1 := by decide +kernel
set_option maxRecDepth 100000 in
set_option maxHeartbeats 4000000 in
theorem M_X10_loadsOf (l : Launch) : MtS l yX10_loadsOf (Cond.code yX10_loadsOf cX10_loadsOf 2 (some .int) :: WALL) { frames := 7, cells := 0, slots := 0, locals := 172 } [20, 0] (some 0) T_X10_loadsOf := by
  refine MtS.mk (B := E_X10_loadsOf) (by decide +kernel) (by decide) (fun _ _ _ hh => hh) ?_
  intro X Q e1 e2 e3 hC hN hT
  subst e1
  have hC : CF X cX10_loadsOf RX10 WALL := hC
  have S_45 : SdS X 45 [(0, 20), (1, 0)] [0] (B_X10_loadsOf_45 Q) := by
    unfold B_X10_loadsOf_45
    exact su_ireturn hC hT dX10_loadsOf_45
  refine (?_ : SdS X 0 [(0, 20), (1, 0)] [] (E_X10_loadsOf Q))
  unfold E_X10_loadsOf
  refine su_aload_n hC 20 dX10_loadsOf_0 rfl (by decide) (by decide) (?_ : SdS X 1 [(0, 20), (1, 0)] [20] _)
  refine su_iconst hC dX10_loadsOf_1 ⟨by decide, by decide⟩ (?_ : SdS X 2 [(0, 20), (1, 0)] [0, 20] _)
  refine su_putF hC (ci := 10) (j := 0) (C := RX10) (T := TX10) (N := 45) tyX10 tyX10_ok nmX10 rfl rfl (by decide) in_X10 rfl rfl wl_5_164 rfl dX10_loadsOf_2 (?_ : SdS X 5 [(0, 20), (1, 0)] [] _)
  refine su_aload_n hC 20 dX10_loadsOf_5 rfl (by decide) (by decide) (?_ : SdS X 6 [(0, 20), (1, 0)] [20] _)
  refine su_iload_n hC dX10_loadsOf_6 rfl (by decide) (?_ : SdS X 7 [(0, 20), (1, 0)] [0, 20] _)
  refine su_inv0 (τ := []) (τr := [0]) (ci := 10) (q := (RX10, TX10, 45)) hC WG (M_X10_isOrder _) rfl rfl rfl rfl  rfl rfl wl_7_235 wl_7_237 wp_111 wl_1_10 wl_7_238 hd_X10_isOrder (by rw [e3]; decide) (by decide) dX10_loadsOf_7 (?_ : SdS X 10 [(0, 20), (1, 0)] [0] _)
  refine su_if_ne (tgt := 19) hC dX10_loadsOf_10 rfl (?_ : SdS X 19 [(0, 20), (1, 0)] [] _) (?_ : SdS X 13 [(0, 20), (1, 0)] [] _)
  · refine su_aload_n hC 20 dX10_loadsOf_19 rfl (by decide) (by decide) (?_ : SdS X 20 [(0, 20), (1, 0)] [20] _)
    refine su_iload_n hC dX10_loadsOf_20 rfl (by decide) (?_ : SdS X 21 [(0, 20), (1, 0)] [0, 20] _)
    refine su_inv0 (τ := []) (τr := [0]) (ci := 10) (q := (RX10, TX10, 45)) hC WG (M_X10_findsOrder _) rfl rfl rfl rfl  rfl rfl wl_7_91 wl_7_93 wp_87 wl_1_10 wl_7_94 hd_X10_findsOrder (by rw [e3]; decide) (by decide) dX10_loadsOf_21 (?_ : SdS X 24 [(0, 20), (1, 0)] [0] _)
    refine su_if_eq (tgt := 39) hC dX10_loadsOf_24 rfl (?_ : SdS X 39 [(0, 20), (1, 0)] [] _) (?_ : SdS X 27 [(0, 20), (1, 0)] [] _)
    · refine su_aload_n hC 20 dX10_loadsOf_39 rfl (by decide) (by decide) (?_ : SdS X 40 [(0, 20), (1, 0)] [20] _)
      refine su_bipush hC dX10_loadsOf_40 (by decide) (?_ : SdS X 42 [(0, 20), (1, 0)] [0, 20] _)
      refine su_inv0 (τ := []) (τr := [0]) (ci := 10) (q := (RX10, TX10, 45)) hC WG (M_X10_refused _) rfl rfl rfl rfl  rfl rfl wl_6_72 wl_6_74 wp_63 wl_1_10 wl_6_75 hd_X10_refused (by rw [e3]; decide) (by decide) dX10_loadsOf_42 (?_ : SdS X 45 [(0, 20), (1, 0)] [0] _)
      exact SdS.weak (by decide) (S_45)
    · refine su_aload_n hC 20 dX10_loadsOf_27 rfl (by decide) (by decide) (?_ : SdS X 28 [(0, 20), (1, 0)] [20] _)
      refine su_aload_n hC 20 dX10_loadsOf_28 rfl (by decide) (by decide) (?_ : SdS X 29 [(0, 20), (1, 0)] [20, 20] _)
      refine su_iload_n hC dX10_loadsOf_29 rfl (by decide) (?_ : SdS X 30 [(0, 20), (1, 0)] [0, 20, 20] _)
      refine su_inv0 (τ := [20]) (τr := [0]) (ci := 10) (q := (RX10, TX10, 45)) hC WG (M_X10_bestLoads _) rfl rfl rfl rfl  rfl rfl wl_8_7 wl_8_9 wp_112 wl_1_10 wl_8_10 hd_X10_bestLoads (by rw [e3]; decide) (by decide) dX10_loadsOf_30 (?_ : SdS X 33 [(0, 20), (1, 0)] [0, 20] _)
      refine su_inv0 (τ := []) (τr := [0]) (ci := 10) (q := (RX10, TX10, 45)) hC WG (M_X10_good _) rfl rfl rfl rfl  rfl rfl wl_7_171 wl_7_173 wp_105 wl_1_10 wl_7_174 hd_X10_good (by rw [e3]; decide) (by decide) dX10_loadsOf_33 (?_ : SdS X 36 [(0, 20), (1, 0)] [0] _)
      refine su_goto (tgt := 45) hC dX10_loadsOf_36 rfl (?_ : SdS X 45 [(0, 20), (1, 0)] [0] _)
      exact SdS.weak (by decide) (S_45)
  · refine su_aload_n hC 20 dX10_loadsOf_13 rfl (by decide) (by decide) (?_ : SdS X 14 [(0, 20), (1, 0)] [20] _)
    refine su_iconst hC dX10_loadsOf_14 ⟨by decide, by decide⟩ (?_ : SdS X 15 [(0, 20), (1, 0)] [0, 20] _)
    refine su_inv0 (τ := []) (τr := [0]) (ci := 10) (q := (RX10, TX10, 45)) hC WG (M_X10_refused _) rfl rfl rfl rfl  rfl rfl wl_6_72 wl_6_74 wp_63 wl_1_10 wl_6_75 hd_X10_refused (by rw [e3]; decide) (by decide) dX10_loadsOf_15 (?_ : SdS X 18 [(0, 20), (1, 0)] [0] _)
    exact su_ireturn hC hT dX10_loadsOf_18
theorem hd_X10_lowers : yX10_lowers.cls ≠ "java/lang/invoke/MethodHandle" ∧ yX10_lowers.cls ≠ "java/lang/invoke/VarHandle" ∧ (parseMethodDescriptor yX10_lowers.desc).map (fun d => d.parameters.length) = some 3 := by decide +kernel
set_option maxRecDepth 100000 in
set_option maxHeartbeats 4000000 in
theorem M_X10_lowers (l : Launch) : MtS l yX10_lowers (Cond.code yX10_lowers cX10_lowers 3 (some .boolean) :: WALL) { frames := 0, cells := 0, slots := 0, locals := 0 } [100, 0, 0] (some 0) T_X10_lowers := by
  refine MtS.mk (B := E_X10_lowers) (by decide +kernel) (by decide) (fun _ _ _ hh => hh) ?_
  intro X Q e1 e2 e3 hC hN hT
  subst e1
  have hC : CF X cX10_lowers RX10 WALL := hC
  refine (?_ : SdS X 0 [(0, 100), (1, 0), (2, 0)] [] (E_X10_lowers Q))
  unfold E_X10_lowers
  refine su_iload_n hC dX10_lowers_0 rfl (by decide) (?_ : SdS X 1 [(0, 100), (1, 0), (2, 0)] [0] _)
  refine su_aload_n hC 100 dX10_lowers_1 rfl (by decide) (by decide) (?_ : SdS X 2 [(0, 100), (1, 0), (2, 0)] [100, 0] _)
  refine su_iload_n hC dX10_lowers_2 rfl (by decide) (?_ : SdS X 3 [(0, 100), (1, 0), (2, 0)] [0, 100, 0] _)
  refine su_iaload hC dX10_lowers_3 (?_ : SdS X 4 [(0, 100), (1, 0), (2, 0)] [0, 0] _)
  refine su_icmp_lt (tgt := 9) hC dX10_lowers_4 rfl (?_ : SdS X 9 [(0, 100), (1, 0), (2, 0)] [] _) (?_ : SdS X 7 [(0, 100), (1, 0), (2, 0)] [] _)
  · refine su_aload_n hC 100 dX10_lowers_9 rfl (by decide) (by decide) (?_ : SdS X 10 [(0, 100), (1, 0), (2, 0)] [100] _)
    refine su_iload_n hC dX10_lowers_10 rfl (by decide) (?_ : SdS X 11 [(0, 100), (1, 0), (2, 0)] [0, 100] _)
    refine su_iload_n hC dX10_lowers_11 rfl (by decide) (?_ : SdS X 12 [(0, 100), (1, 0), (2, 0)] [0, 0, 100] _)
    refine su_iastore hC dX10_lowers_12 (?_ : SdS X 13 [(0, 100), (1, 0), (2, 0)] [] _)
    refine su_iconst hC dX10_lowers_13 ⟨by decide, by decide⟩ (?_ : SdS X 14 [(0, 100), (1, 0), (2, 0)] [0] _)
    exact su_zreturn hC hT dX10_lowers_14
  · refine su_iconst hC dX10_lowers_7 ⟨by decide, by decide⟩ (?_ : SdS X 8 [(0, 100), (1, 0), (2, 0)] [0] _)
    exact su_zreturn hC hT dX10_lowers_8
theorem hd_X10_mark : yX10_mark.cls ≠ "java/lang/invoke/MethodHandle" ∧ yX10_mark.cls ≠ "java/lang/invoke/VarHandle" ∧ (parseMethodDescriptor yX10_mark.desc).map (fun d => d.parameters.length) = some 0 := by decide +kernel
set_option maxRecDepth 100000 in
set_option maxHeartbeats 4000000 in
theorem M_X10_mark (l : Launch) : MtS l yX10_mark (Cond.code yX10_mark cX10_mark 2 (some .int) :: WALL) { frames := 1, cells := 0, slots := 0, locals := 21 } [20] (some 0) T_X10_mark := by
  refine MtS.mk (B := E_X10_mark) (by decide +kernel) (by decide) (fun _ _ _ hh => hh) ?_
  intro X Q e1 e2 e3 hC hN hT
  subst e1
  have hC : CF X cX10_mark RX10 WALL := hC
  have S_34 : SdS X 34 [(0, 20), (1, 0)] [] (L_X10_mark_34 Q) := by
    unfold L_X10_mark_34
    refine SdS.loop (fun k34 h34 => ?_)
    refine su_iload_n hC dX10_mark_34 rfl (by decide) (?_ : SdS X 35 [(0, 20), (1, 0)] [0] _)
    refine su_sipush hC dX10_mark_35 (by decide) (?_ : SdS X 38 [(0, 20), (1, 0)] [0, 0] _)
    refine su_icmp_ge (tgt := 68) hC dX10_mark_38 rfl (?_ : SdS X 68 [(0, 20), (1, 0)] [] _) (?_ : SdS X 41 [(0, 20), (1, 0)] [] _)
    · refine su_aload_n hC 20 dX10_mark_68 rfl (by decide) (by decide) (?_ : SdS X 69 [(0, 20), (1, 0)] [20] _)
      refine su_dup hC (by decide) dX10_mark_69 (?_ : SdS X 70 [(0, 20), (1, 0)] [20, 20] _)
      refine su_getF hC (ci := 10) (j := 39) (C := RX10) (T := TX10) (N := 45) rfl rfl (by decide) in_X10 wl_5_203 rfl dX10_mark_70 (?_ : SdS X 73 [(0, 20), (1, 0)] [0, 20] _)
      refine su_iconst hC dX10_mark_73 ⟨by decide, by decide⟩ (?_ : SdS X 74 [(0, 20), (1, 0)] [0, 0, 20] _)
      refine su_iadd hC dX10_mark_74 (?_ : SdS X 75 [(0, 20), (1, 0)] [0, 20] _)
      refine su_putF hC (ci := 10) (j := 39) (C := RX10) (T := TX10) (N := 45) tyX10 tyX10_ok nmX10 rfl rfl (by decide) in_X10 rfl rfl wl_5_203 rfl dX10_mark_75 (?_ : SdS X 78 [(0, 20), (1, 0)] [] _)
      refine su_aload_n hC 20 dX10_mark_78 rfl (by decide) (by decide) (?_ : SdS X 79 [(0, 20), (1, 0)] [20] _)
      refine su_aload_n hC 20 dX10_mark_79 rfl (by decide) (by decide) (?_ : SdS X 80 [(0, 20), (1, 0)] [20, 20] _)
      refine su_getF hC (ci := 10) (j := 39) (C := RX10) (T := TX10) (N := 45) rfl rfl (by decide) in_X10 wl_5_203 rfl dX10_mark_80 (?_ : SdS X 83 [(0, 20), (1, 0)] [0, 20] _)
      refine su_iconst hC dX10_mark_83 ⟨by decide, by decide⟩ (?_ : SdS X 84 [(0, 20), (1, 0)] [0, 0, 20] _)
      refine su_isub hC dX10_mark_84 (?_ : SdS X 85 [(0, 20), (1, 0)] [0, 20] _)
      refine su_inv0 (τ := []) (τr := [0]) (ci := 10) (q := (RX10, TX10, 45)) hC WG (M_X10_good _) rfl rfl rfl rfl  rfl rfl wl_7_171 wl_7_173 wp_105 wl_1_10 wl_7_174 hd_X10_good (by rw [e3]; decide) (by decide) dX10_mark_85 (?_ : SdS X 88 [(0, 20), (1, 0)] [0] _)
      exact su_ireturn hC hT dX10_mark_88
    · refine su_aload_n hC 20 dX10_mark_41 rfl (by decide) (by decide) (?_ : SdS X 42 [(0, 20), (1, 0)] [20] _)
      refine su_getR hC (ci := 10) (j := 33) (C := RX10) (T := TX10) (N := 45) rfl rfl (by decide) in_X10 wl_5_197 rfl dX10_mark_42 (?_ : SdS X 45 [(0, 20), (1, 0)] [100] _)
      refine su_sipush hC dX10_mark_45 (by decide) (?_ : SdS X 48 [(0, 20), (1, 0)] [0, 100] _)
      refine su_aload_n hC 20 dX10_mark_48 rfl (by decide) (by decide) (?_ : SdS X 49 [(0, 20), (1, 0)] [20, 0, 100] _)
      refine su_getF hC (ci := 10) (j := 39) (C := RX10) (T := TX10) (N := 45) rfl rfl (by decide) in_X10 wl_5_203 rfl dX10_mark_49 (?_ : SdS X 52 [(0, 20), (1, 0)] [0, 0, 100] _)
      refine su_imul hC dX10_mark_52 (?_ : SdS X 53 [(0, 20), (1, 0)] [0, 100] _)
      refine su_iload_n hC dX10_mark_53 rfl (by decide) (?_ : SdS X 54 [(0, 20), (1, 0)] [0, 0, 100] _)
      refine su_iadd hC dX10_mark_54 (?_ : SdS X 55 [(0, 20), (1, 0)] [0, 100] _)
      refine su_aload_n hC 20 dX10_mark_55 rfl (by decide) (by decide) (?_ : SdS X 56 [(0, 20), (1, 0)] [20, 0, 100] _)
      refine su_getR hC (ci := 10) (j := 32) (C := RX10) (T := TX10) (N := 45) rfl rfl (by decide) in_X10 wl_5_196 rfl dX10_mark_56 (?_ : SdS X 59 [(0, 20), (1, 0)] [100, 0, 100] _)
      refine su_iload_n hC dX10_mark_59 rfl (by decide) (?_ : SdS X 60 [(0, 20), (1, 0)] [0, 100, 0, 100] _)
      refine su_iaload hC dX10_mark_60 (?_ : SdS X 61 [(0, 20), (1, 0)] [0, 0, 100] _)
      refine su_iastore hC dX10_mark_61 (?_ : SdS X 62 [(0, 20), (1, 0)] [] _)
      refine su_iinc (Γ' := [(0, 20), (1, 0)]) hC dX10_mark_62 (by decide) (by rw [e2]; decide) (by decide) (?_ : SdS X 65 [(0, 20), (1, 0)] [] _)
      refine su_goto (tgt := 34) hC dX10_mark_65 rfl (?_ : SdS X 34 [(0, 20), (1, 0)] [] _)
      exact SdS.weak (by decide) h34
  refine (?_ : SdS X 0 [(0, 20)] [] (E_X10_mark Q))
  unfold E_X10_mark
  refine su_aload_n hC 20 dX10_mark_0 rfl (by decide) (by decide) (?_ : SdS X 1 [(0, 20)] [20] _)
  refine su_iconst hC dX10_mark_1 ⟨by decide, by decide⟩ (?_ : SdS X 2 [(0, 20)] [0, 20] _)
  refine su_putF hC (ci := 10) (j := 0) (C := RX10) (T := TX10) (N := 45) tyX10 tyX10_ok nmX10 rfl rfl (by decide) in_X10 rfl rfl wl_5_164 rfl dX10_mark_2 (?_ : SdS X 5 [(0, 20)] [] _)
  refine su_aload_n hC 20 dX10_mark_5 rfl (by decide) (by decide) (?_ : SdS X 6 [(0, 20)] [20] _)
  refine su_getR hC (ci := 10) (j := 3) (C := RX10) (T := TX10) (N := 45) rfl rfl (by decide) in_X10 wl_5_167 rfl dX10_mark_6 (?_ : SdS X 9 [(0, 20)] [19] _)
  refine su_ifnonnull (tgt := 18) hC (by decide) dX10_mark_9 rfl (?_ : SdS X 18 [(0, 20)] [] _) (?_ : SdS X 12 [(0, 20)] [] _)
  · refine su_aload_n hC 20 dX10_mark_18 rfl (by decide) (by decide) (?_ : SdS X 19 [(0, 20)] [20] _)
    refine su_getF hC (ci := 10) (j := 39) (C := RX10) (T := TX10) (N := 45) rfl rfl (by decide) in_X10 wl_5_203 rfl dX10_mark_19 (?_ : SdS X 22 [(0, 20)] [0] _)
    refine su_iconst hC dX10_mark_22 ⟨by decide, by decide⟩ (?_ : SdS X 23 [(0, 20)] [0, 0] _)
    refine su_icmp_ne (tgt := 32) hC dX10_mark_23 rfl (?_ : SdS X 32 [(0, 20)] [] _) (?_ : SdS X 26 [(0, 20)] [] _)
    · refine su_iconst hC dX10_mark_32 ⟨by decide, by decide⟩ (?_ : SdS X 33 [(0, 20)] [0] _)
      refine su_istore_n (Γ' := [(0, 20), (1, 0)]) hC dX10_mark_33 rfl (by rw [e2]; decide) (by decide) (?_ : SdS X 34 [(0, 20), (1, 0)] [] _)
      exact SdS.weak (by decide) (S_34)
    · refine su_aload_n hC 20 dX10_mark_26 rfl (by decide) (by decide) (?_ : SdS X 27 [(0, 20)] [20] _)
      refine su_iconst hC dX10_mark_27 ⟨by decide, by decide⟩ (?_ : SdS X 28 [(0, 20)] [0, 20] _)
      refine su_inv0 (τ := []) (τr := [0]) (ci := 10) (q := (RX10, TX10, 45)) hC WG (M_X10_refused _) rfl rfl rfl rfl  rfl rfl wl_6_72 wl_6_74 wp_63 wl_1_10 wl_6_75 hd_X10_refused (by rw [e3]; decide) (by decide) dX10_mark_28 (?_ : SdS X 31 [(0, 20)] [0] _)
      exact su_ireturn hC hT dX10_mark_31
  · refine su_aload_n hC 20 dX10_mark_12 rfl (by decide) (by decide) (?_ : SdS X 13 [(0, 20)] [20] _)
    refine su_iconst hC dX10_mark_13 ⟨by decide, by decide⟩ (?_ : SdS X 14 [(0, 20)] [0, 20] _)
    refine su_inv0 (τ := []) (τr := [0]) (ci := 10) (q := (RX10, TX10, 45)) hC WG (M_X10_refused _) rfl rfl rfl rfl  rfl rfl wl_6_72 wl_6_74 wp_63 wl_1_10 wl_6_75 hd_X10_refused (by rw [e3]; decide) (by decide) dX10_mark_14 (?_ : SdS X 17 [(0, 20)] [0] _)
    exact su_ireturn hC hT dX10_mark_17
theorem hd_X10_moves : yX10_moves.cls ≠ "java/lang/invoke/MethodHandle" ∧ yX10_moves.cls ≠ "java/lang/invoke/VarHandle" ∧ (parseMethodDescriptor yX10_moves.desc).map (fun d => d.parameters.length) = some 1 := by decide +kernel
set_option maxRecDepth 100000 in
set_option maxHeartbeats 4000000 in
theorem M_X10_moves (l : Launch) : MtS l yX10_moves (Cond.code yX10_moves cX10_moves 4 none :: WALL) { frames := 2, cells := 0, slots := 0, locals := 43 } [20, 0] none T_X10_moves := by
  refine MtS.mk (B := E_X10_moves) (by decide +kernel) (by decide) (fun _ _ _ hh => hh) ?_
  intro X Q e1 e2 e3 hC hN hT
  subst e1
  have hC : CF X cX10_moves RX10 WALL := hC
  have S_194 : SdS X 194 [(0, 20), (1, 0), (2, 0), (3, 0)] [] (B_X10_moves_194 Q) := by
    unfold B_X10_moves_194
    exact su_return hC hT dX10_moves_194
  have S_142 : SdS X 142 [(0, 20), (1, 0), (2, 0), (3, 0)] [0, 0, 100] (B_X10_moves_142 Q) := by
    unfold B_X10_moves_142
    refine su_iastore hC dX10_moves_142 (?_ : SdS X 143 [(0, 20), (1, 0), (2, 0), (3, 0)] [] _)
    refine su_aload_n hC 20 dX10_moves_143 rfl (by decide) (by decide) (?_ : SdS X 144 [(0, 20), (1, 0), (2, 0), (3, 0)] [20] _)
    refine su_getR hC (ci := 10) (j := 32) (C := RX10) (T := TX10) (N := 45) rfl rfl (by decide) in_X10 wl_5_196 rfl dX10_moves_144 (?_ : SdS X 147 [(0, 20), (1, 0), (2, 0), (3, 0)] [100] _)
    refine su_iload_n hC dX10_moves_147 rfl (by decide) (?_ : SdS X 148 [(0, 20), (1, 0), (2, 0), (3, 0)] [0, 100] _)
    refine su_bipush hC dX10_moves_148 (by decide) (?_ : SdS X 150 [(0, 20), (1, 0), (2, 0), (3, 0)] [0, 0, 100] _)
    refine su_iadd hC dX10_moves_150 (?_ : SdS X 151 [(0, 20), (1, 0), (2, 0), (3, 0)] [0, 100] _)
    refine su_dup2 hC (by decide) (by decide) dX10_moves_151 (?_ : SdS X 152 [(0, 20), (1, 0), (2, 0), (3, 0)] [0, 100, 0, 100] _)
    refine su_iaload hC dX10_moves_152 (?_ : SdS X 153 [(0, 20), (1, 0), (2, 0), (3, 0)] [0, 0, 100] _)
    refine su_iconst hC dX10_moves_153 ⟨by decide, by decide⟩ (?_ : SdS X 154 [(0, 20), (1, 0), (2, 0), (3, 0)] [0, 0, 0, 100] _)
    refine su_iadd hC dX10_moves_154 (?_ : SdS X 155 [(0, 20), (1, 0), (2, 0), (3, 0)] [0, 0, 100] _)
    refine su_iastore hC dX10_moves_155 (?_ : SdS X 156 [(0, 20), (1, 0), (2, 0), (3, 0)] [] _)
    refine su_aload_n hC 20 dX10_moves_156 rfl (by decide) (by decide) (?_ : SdS X 157 [(0, 20), (1, 0), (2, 0), (3, 0)] [20] _)
    refine su_getR hC (ci := 10) (j := 32) (C := RX10) (T := TX10) (N := 45) rfl rfl (by decide) in_X10 wl_5_196 rfl dX10_moves_157 (?_ : SdS X 160 [(0, 20), (1, 0), (2, 0), (3, 0)] [100] _)
    refine su_iload_n hC dX10_moves_160 rfl (by decide) (?_ : SdS X 161 [(0, 20), (1, 0), (2, 0), (3, 0)] [0, 100] _)
    refine su_iconst hC dX10_moves_161 ⟨by decide, by decide⟩ (?_ : SdS X 162 [(0, 20), (1, 0), (2, 0), (3, 0)] [0, 0, 100] _)
    refine su_iadd hC dX10_moves_162 (?_ : SdS X 163 [(0, 20), (1, 0), (2, 0), (3, 0)] [0, 100] _)
    refine su_iconst hC dX10_moves_163 ⟨by decide, by decide⟩ (?_ : SdS X 164 [(0, 20), (1, 0), (2, 0), (3, 0)] [0, 0, 100] _)
    refine su_iastore hC dX10_moves_164 (?_ : SdS X 165 [(0, 20), (1, 0), (2, 0), (3, 0)] [] _)
    refine su_aload_n hC 20 dX10_moves_165 rfl (by decide) (by decide) (?_ : SdS X 166 [(0, 20), (1, 0), (2, 0), (3, 0)] [20] _)
    refine su_iload_n hC dX10_moves_166 rfl (by decide) (?_ : SdS X 167 [(0, 20), (1, 0), (2, 0), (3, 0)] [0, 20] _)
    refine su_inv0 (τ := []) (τr := [0]) (ci := 10) (q := (RX10, TX10, 45)) hC WG (M_X10_isAtEnd _) rfl rfl rfl rfl  rfl rfl wl_8_39 wl_8_41 wp_117 wl_1_10 wl_8_42 hd_X10_isAtEnd (by rw [e3]; decide) (by decide) dX10_moves_167 (?_ : SdS X 170 [(0, 20), (1, 0), (2, 0), (3, 0)] [0] _)
    refine su_if_eq (tgt := 194) hC dX10_moves_170 rfl (?_ : SdS X 194 [(0, 20), (1, 0), (2, 0), (3, 0)] [] _) (?_ : SdS X 173 [(0, 20), (1, 0), (2, 0), (3, 0)] [] _)
    · exact SdS.weak (by decide) (S_194)
    · refine su_aload_n hC 20 dX10_moves_173 rfl (by decide) (by decide) (?_ : SdS X 174 [(0, 20), (1, 0), (2, 0), (3, 0)] [20] _)
      refine su_getR hC (ci := 10) (j := 32) (C := RX10) (T := TX10) (N := 45) rfl rfl (by decide) in_X10 wl_5_196 rfl dX10_moves_174 (?_ : SdS X 177 [(0, 20), (1, 0), (2, 0), (3, 0)] [100] _)
      refine su_iload_n hC dX10_moves_177 rfl (by decide) (?_ : SdS X 178 [(0, 20), (1, 0), (2, 0), (3, 0)] [0, 100] _)
      refine su_iconst hC dX10_moves_178 ⟨by decide, by decide⟩ (?_ : SdS X 179 [(0, 20), (1, 0), (2, 0), (3, 0)] [0, 0, 100] _)
      refine su_iadd hC dX10_moves_179 (?_ : SdS X 180 [(0, 20), (1, 0), (2, 0), (3, 0)] [0, 100] _)
      refine su_iaload hC dX10_moves_180 (?_ : SdS X 181 [(0, 20), (1, 0), (2, 0), (3, 0)] [0] _)
      refine su_aload_n hC 20 dX10_moves_181 rfl (by decide) (by decide) (?_ : SdS X 182 [(0, 20), (1, 0), (2, 0), (3, 0)] [20, 0] _)
      refine su_iload_n hC dX10_moves_182 rfl (by decide) (?_ : SdS X 183 [(0, 20), (1, 0), (2, 0), (3, 0)] [0, 20, 0] _)
      refine su_inv0 (τ := [0]) (τr := [0]) (ci := 10) (q := (RX10, TX10, 45)) hC WG (M_X10_placeNext _) rfl rfl rfl rfl  rfl rfl wl_8_35 wl_8_37 wp_116 wl_1_10 wl_8_38 hd_X10_placeNext (by rw [e3]; decide) (by decide) dX10_moves_183 (?_ : SdS X 186 [(0, 20), (1, 0), (2, 0), (3, 0)] [0, 0] _)
      refine su_icmp_ne (tgt := 194) hC dX10_moves_186 rfl (?_ : SdS X 194 [(0, 20), (1, 0), (2, 0), (3, 0)] [] _) (?_ : SdS X 189 [(0, 20), (1, 0), (2, 0), (3, 0)] [] _)
      · exact SdS.weak (by decide) (S_194)
      · refine su_aload_n hC 20 dX10_moves_189 rfl (by decide) (by decide) (?_ : SdS X 190 [(0, 20), (1, 0), (2, 0), (3, 0)] [20] _)
        refine su_iload_n hC dX10_moves_190 rfl (by decide) (?_ : SdS X 191 [(0, 20), (1, 0), (2, 0), (3, 0)] [0, 20] _)
        refine su_inv0v (τ := []) (τr := [0]) (ci := 10) (q := (RX10, TX10, 45)) hC WG (M_X10_comes _) rfl rfl rfl rfl  rfl rfl wl_8_47 wl_8_49 wp_119 wl_1_10 wl_8_50 hd_X10_comes (by rw [e3]; decide) (by decide) dX10_moves_191 (?_ : SdS X 194 [(0, 20), (1, 0), (2, 0), (3, 0)] [] _)
        exact SdS.weak (by decide) (S_194)
  have S_30 : SdS X 30 [(0, 20), (1, 0), (2, 0)] [] (B_X10_moves_30 Q) := by
    unfold B_X10_moves_30
    refine su_aload_n hC 20 dX10_moves_30 rfl (by decide) (by decide) (?_ : SdS X 31 [(0, 20), (1, 0), (2, 0)] [20] _)
    refine su_getR hC (ci := 10) (j := 32) (C := RX10) (T := TX10) (N := 45) rfl rfl (by decide) in_X10 wl_5_196 rfl dX10_moves_31 (?_ : SdS X 34 [(0, 20), (1, 0), (2, 0)] [100] _)
    refine su_iload_n hC dX10_moves_34 rfl (by decide) (?_ : SdS X 35 [(0, 20), (1, 0), (2, 0)] [0, 100] _)
    refine su_iconst hC dX10_moves_35 ⟨by decide, by decide⟩ (?_ : SdS X 36 [(0, 20), (1, 0), (2, 0)] [0, 0, 100] _)
    refine su_iadd hC dX10_moves_36 (?_ : SdS X 37 [(0, 20), (1, 0), (2, 0)] [0, 100] _)
    refine su_dup2 hC (by decide) (by decide) dX10_moves_37 (?_ : SdS X 38 [(0, 20), (1, 0), (2, 0)] [0, 100, 0, 100] _)
    refine su_iaload hC dX10_moves_38 (?_ : SdS X 39 [(0, 20), (1, 0), (2, 0)] [0, 0, 100] _)
    refine su_iconst hC dX10_moves_39 ⟨by decide, by decide⟩ (?_ : SdS X 40 [(0, 20), (1, 0), (2, 0)] [0, 0, 0, 100] _)
    refine su_isub hC dX10_moves_40 (?_ : SdS X 41 [(0, 20), (1, 0), (2, 0)] [0, 0, 100] _)
    refine su_iastore hC dX10_moves_41 (?_ : SdS X 42 [(0, 20), (1, 0), (2, 0)] [] _)
    refine su_aload_n hC 20 dX10_moves_42 rfl (by decide) (by decide) (?_ : SdS X 43 [(0, 20), (1, 0), (2, 0)] [20] _)
    refine su_getR hC (ci := 10) (j := 32) (C := RX10) (T := TX10) (N := 45) rfl rfl (by decide) in_X10 wl_5_196 rfl dX10_moves_43 (?_ : SdS X 46 [(0, 20), (1, 0), (2, 0)] [100] _)
    refine su_iload_n hC dX10_moves_46 rfl (by decide) (?_ : SdS X 47 [(0, 20), (1, 0), (2, 0)] [0, 100] _)
    refine su_iconst hC dX10_moves_47 ⟨by decide, by decide⟩ (?_ : SdS X 48 [(0, 20), (1, 0), (2, 0)] [0, 0, 100] _)
    refine su_iadd hC dX10_moves_48 (?_ : SdS X 49 [(0, 20), (1, 0), (2, 0)] [0, 100] _)
    refine su_iaload hC dX10_moves_49 (?_ : SdS X 50 [(0, 20), (1, 0), (2, 0)] [0] _)
    refine su_if_le (tgt := 54) hC dX10_moves_50 rfl (?_ : SdS X 54 [(0, 20), (1, 0), (2, 0)] [] _) (?_ : SdS X 53 [(0, 20), (1, 0), (2, 0)] [] _)
    · refine su_aload_n hC 20 dX10_moves_54 rfl (by decide) (by decide) (?_ : SdS X 55 [(0, 20), (1, 0), (2, 0)] [20] _)
      refine su_getR hC (ci := 10) (j := 32) (C := RX10) (T := TX10) (N := 45) rfl rfl (by decide) in_X10 wl_5_196 rfl dX10_moves_55 (?_ : SdS X 58 [(0, 20), (1, 0), (2, 0)] [100] _)
      refine su_iload_n hC dX10_moves_58 rfl (by decide) (?_ : SdS X 59 [(0, 20), (1, 0), (2, 0)] [0, 100] _)
      refine su_iconst hC dX10_moves_59 ⟨by decide, by decide⟩ (?_ : SdS X 60 [(0, 20), (1, 0), (2, 0)] [0, 0, 100] _)
      refine su_iadd hC dX10_moves_60 (?_ : SdS X 61 [(0, 20), (1, 0), (2, 0)] [0, 100] _)
      refine su_iaload hC dX10_moves_61 (?_ : SdS X 62 [(0, 20), (1, 0), (2, 0)] [0] _)
      refine su_iconst hC dX10_moves_62 ⟨by decide, by decide⟩ (?_ : SdS X 63 [(0, 20), (1, 0), (2, 0)] [0, 0] _)
      refine su_icmp_ne (tgt := 95) hC dX10_moves_63 rfl (?_ : SdS X 95 [(0, 20), (1, 0), (2, 0)] [] _) (?_ : SdS X 66 [(0, 20), (1, 0), (2, 0)] [] _)
      · refine su_aload_n hC 20 dX10_moves_95 rfl (by decide) (by decide) (?_ : SdS X 96 [(0, 20), (1, 0), (2, 0)] [20] _)
        refine su_iload_n hC dX10_moves_96 rfl (by decide) (?_ : SdS X 97 [(0, 20), (1, 0), (2, 0)] [0, 20] _)
        refine su_inv0 (τ := []) (τr := [0]) (ci := 10) (q := (RX10, TX10, 45)) hC WG (M_X10_gateNext _) rfl rfl rfl rfl  rfl rfl wl_8_43 wl_8_45 wp_118 wl_1_10 wl_8_46 hd_X10_gateNext (by rw [e3]; decide) (by decide) dX10_moves_97 (?_ : SdS X 100 [(0, 20), (1, 0), (2, 0)] [0] _)
        refine su_istore_n (Γ' := [(0, 20), (1, 0), (2, 0), (3, 0)]) hC dX10_moves_100 rfl (by rw [e2]; decide) (by decide) (?_ : SdS X 101 [(0, 20), (1, 0), (2, 0), (3, 0)] [] _)
        refine su_aload_n hC 20 dX10_moves_101 rfl (by decide) (by decide) (?_ : SdS X 102 [(0, 20), (1, 0), (2, 0), (3, 0)] [20] _)
        refine su_getR hC (ci := 10) (j := 32) (C := RX10) (T := TX10) (N := 45) rfl rfl (by decide) in_X10 wl_5_196 rfl dX10_moves_102 (?_ : SdS X 105 [(0, 20), (1, 0), (2, 0), (3, 0)] [100] _)
        refine su_iload_n hC dX10_moves_105 rfl (by decide) (?_ : SdS X 106 [(0, 20), (1, 0), (2, 0), (3, 0)] [0, 100] _)
        refine su_iconst hC dX10_moves_106 ⟨by decide, by decide⟩ (?_ : SdS X 107 [(0, 20), (1, 0), (2, 0), (3, 0)] [0, 0, 100] _)
        refine su_iadd hC dX10_moves_107 (?_ : SdS X 108 [(0, 20), (1, 0), (2, 0), (3, 0)] [0, 100] _)
        refine su_aload_n hC 20 dX10_moves_108 rfl (by decide) (by decide) (?_ : SdS X 109 [(0, 20), (1, 0), (2, 0), (3, 0)] [20, 0, 100] _)
        refine su_getR hC (ci := 10) (j := 32) (C := RX10) (T := TX10) (N := 45) rfl rfl (by decide) in_X10 wl_5_196 rfl dX10_moves_109 (?_ : SdS X 112 [(0, 20), (1, 0), (2, 0), (3, 0)] [100, 0, 100] _)
        refine su_iload_n hC dX10_moves_112 rfl (by decide) (?_ : SdS X 113 [(0, 20), (1, 0), (2, 0), (3, 0)] [0, 100, 0, 100] _)
        refine su_iconst hC dX10_moves_113 ⟨by decide, by decide⟩ (?_ : SdS X 114 [(0, 20), (1, 0), (2, 0), (3, 0)] [0, 0, 100, 0, 100] _)
        refine su_iadd hC dX10_moves_114 (?_ : SdS X 115 [(0, 20), (1, 0), (2, 0), (3, 0)] [0, 100, 0, 100] _)
        refine su_iaload hC dX10_moves_115 (?_ : SdS X 116 [(0, 20), (1, 0), (2, 0), (3, 0)] [0, 0, 100] _)
        refine su_aload_n hC 20 dX10_moves_116 rfl (by decide) (by decide) (?_ : SdS X 117 [(0, 20), (1, 0), (2, 0), (3, 0)] [20, 0, 0, 100] _)
        refine su_iload_n hC dX10_moves_117 rfl (by decide) (?_ : SdS X 118 [(0, 20), (1, 0), (2, 0), (3, 0)] [0, 20, 0, 0, 100] _)
        refine su_iconst hC dX10_moves_118 ⟨by decide, by decide⟩ (?_ : SdS X 119 [(0, 20), (1, 0), (2, 0), (3, 0)] [0, 0, 20, 0, 0, 100] _)
        refine su_inv0 (τ := [0, 0, 100]) (τr := [0, 0]) (ci := 10) (q := (RX10, TX10, 45)) hC WG (M_X10_of _) rfl rfl rfl rfl  rfl rfl wl_7_131 wl_7_133 wp_96 wl_1_10 wl_7_134 hd_X10_of (by rw [e3]; decide) (by decide) dX10_moves_119 (?_ : SdS X 122 [(0, 20), (1, 0), (2, 0), (3, 0)] [0, 0, 0, 100] _)
        refine su_icmp_ne (tgt := 136) hC dX10_moves_122 rfl (?_ : SdS X 136 [(0, 20), (1, 0), (2, 0), (3, 0)] [0, 100] _) (?_ : SdS X 125 [(0, 20), (1, 0), (2, 0), (3, 0)] [0, 100] _)
        · refine su_aload_n hC 20 dX10_moves_136 rfl (by decide) (by decide) (?_ : SdS X 137 [(0, 20), (1, 0), (2, 0), (3, 0)] [20, 0, 100] _)
          refine su_iload_n hC dX10_moves_137 rfl (by decide) (?_ : SdS X 138 [(0, 20), (1, 0), (2, 0), (3, 0)] [0, 20, 0, 100] _)
          refine su_iconst hC dX10_moves_138 ⟨by decide, by decide⟩ (?_ : SdS X 139 [(0, 20), (1, 0), (2, 0), (3, 0)] [0, 0, 20, 0, 100] _)
          refine su_inv0 (τ := [0, 100]) (τr := [0, 0]) (ci := 10) (q := (RX10, TX10, 45)) hC WG (M_X10_of _) rfl rfl rfl rfl  rfl rfl wl_7_131 wl_7_133 wp_96 wl_1_10 wl_7_134 hd_X10_of (by rw [e3]; decide) (by decide) dX10_moves_139 (?_ : SdS X 142 [(0, 20), (1, 0), (2, 0), (3, 0)] [0, 0, 100] _)
          exact SdS.weak (by decide) (S_142)
        · refine su_aload_n hC 20 dX10_moves_125 rfl (by decide) (by decide) (?_ : SdS X 126 [(0, 20), (1, 0), (2, 0), (3, 0)] [20, 0, 100] _)
          refine su_iload_n hC dX10_moves_126 rfl (by decide) (?_ : SdS X 127 [(0, 20), (1, 0), (2, 0), (3, 0)] [0, 20, 0, 100] _)
          refine su_iconst hC dX10_moves_127 ⟨by decide, by decide⟩ (?_ : SdS X 128 [(0, 20), (1, 0), (2, 0), (3, 0)] [0, 0, 20, 0, 100] _)
          refine su_inv0 (τ := [0, 100]) (τr := [0, 0]) (ci := 10) (q := (RX10, TX10, 45)) hC WG (M_X10_of _) rfl rfl rfl rfl  rfl rfl wl_7_131 wl_7_133 wp_96 wl_1_10 wl_7_134 hd_X10_of (by rw [e3]; decide) (by decide) dX10_moves_128 (?_ : SdS X 131 [(0, 20), (1, 0), (2, 0), (3, 0)] [0, 0, 100] _)
          refine su_iconst hC dX10_moves_131 ⟨by decide, by decide⟩ (?_ : SdS X 132 [(0, 20), (1, 0), (2, 0), (3, 0)] [0, 0, 0, 100] _)
          refine su_iadd hC dX10_moves_132 (?_ : SdS X 133 [(0, 20), (1, 0), (2, 0), (3, 0)] [0, 0, 100] _)
          refine su_goto (tgt := 142) hC dX10_moves_133 rfl (?_ : SdS X 142 [(0, 20), (1, 0), (2, 0), (3, 0)] [0, 0, 100] _)
          exact SdS.weak (by decide) (S_142)
      · refine su_aload_n hC 20 dX10_moves_66 rfl (by decide) (by decide) (?_ : SdS X 67 [(0, 20), (1, 0), (2, 0)] [20] _)
        refine su_getR hC (ci := 10) (j := 32) (C := RX10) (T := TX10) (N := 45) rfl rfl (by decide) in_X10 wl_5_196 rfl dX10_moves_67 (?_ : SdS X 70 [(0, 20), (1, 0), (2, 0)] [100] _)
        refine su_iload_n hC dX10_moves_70 rfl (by decide) (?_ : SdS X 71 [(0, 20), (1, 0), (2, 0)] [0, 100] _)
        refine su_iconst hC dX10_moves_71 ⟨by decide, by decide⟩ (?_ : SdS X 72 [(0, 20), (1, 0), (2, 0)] [0, 0, 100] _)
        refine su_iadd hC dX10_moves_72 (?_ : SdS X 73 [(0, 20), (1, 0), (2, 0)] [0, 100] _)
        refine su_bipush hC dX10_moves_73 (by decide) (?_ : SdS X 75 [(0, 20), (1, 0), (2, 0)] [0, 0, 100] _)
        refine su_iastore hC dX10_moves_75 (?_ : SdS X 76 [(0, 20), (1, 0), (2, 0)] [] _)
        refine su_aload_n hC 20 dX10_moves_76 rfl (by decide) (by decide) (?_ : SdS X 77 [(0, 20), (1, 0), (2, 0)] [20] _)
        refine su_getR hC (ci := 10) (j := 32) (C := RX10) (T := TX10) (N := 45) rfl rfl (by decide) in_X10 wl_5_196 rfl dX10_moves_77 (?_ : SdS X 80 [(0, 20), (1, 0), (2, 0)] [100] _)
        refine su_iload_n hC dX10_moves_80 rfl (by decide) (?_ : SdS X 81 [(0, 20), (1, 0), (2, 0)] [0, 100] _)
        refine su_iconst hC dX10_moves_81 ⟨by decide, by decide⟩ (?_ : SdS X 82 [(0, 20), (1, 0), (2, 0)] [0, 0, 100] _)
        refine su_iadd hC dX10_moves_82 (?_ : SdS X 83 [(0, 20), (1, 0), (2, 0)] [0, 100] _)
        refine su_aload_n hC 20 dX10_moves_83 rfl (by decide) (by decide) (?_ : SdS X 84 [(0, 20), (1, 0), (2, 0)] [20, 0, 100] _)
        refine su_iload_n hC dX10_moves_84 rfl (by decide) (?_ : SdS X 85 [(0, 20), (1, 0), (2, 0)] [0, 20, 0, 100] _)
        refine su_inv0 (τ := [0, 100]) (τr := [0]) (ci := 10) (q := (RX10, TX10, 45)) hC WG (M_X10_placeNext _) rfl rfl rfl rfl  rfl rfl wl_8_35 wl_8_37 wp_116 wl_1_10 wl_8_38 hd_X10_placeNext (by rw [e3]; decide) (by decide) dX10_moves_85 (?_ : SdS X 88 [(0, 20), (1, 0), (2, 0)] [0, 0, 100] _)
        refine su_iastore hC dX10_moves_88 (?_ : SdS X 89 [(0, 20), (1, 0), (2, 0)] [] _)
        refine su_aload_n hC 20 dX10_moves_89 rfl (by decide) (by decide) (?_ : SdS X 90 [(0, 20), (1, 0), (2, 0)] [20] _)
        refine su_iload_n hC dX10_moves_90 rfl (by decide) (?_ : SdS X 91 [(0, 20), (1, 0), (2, 0)] [0, 20] _)
        refine su_inv0v (τ := []) (τr := [0]) (ci := 10) (q := (RX10, TX10, 45)) hC WG (M_X10_comes _) rfl rfl rfl rfl  rfl rfl wl_8_47 wl_8_49 wp_119 wl_1_10 wl_8_50 hd_X10_comes (by rw [e3]; decide) (by decide) dX10_moves_91 (?_ : SdS X 94 [(0, 20), (1, 0), (2, 0)] [] _)
        exact su_return hC hT dX10_moves_94
    · exact su_return hC hT dX10_moves_53
  refine (?_ : SdS X 0 [(0, 20), (1, 0)] [] (E_X10_moves Q))
  unfold E_X10_moves
  refine su_bipush hC dX10_moves_0 (by decide) (?_ : SdS X 2 [(0, 20), (1, 0)] [0] _)
  refine su_iload_n hC dX10_moves_2 rfl (by decide) (?_ : SdS X 3 [(0, 20), (1, 0)] [0, 0] _)
  refine su_imul hC dX10_moves_3 (?_ : SdS X 4 [(0, 20), (1, 0)] [0] _)
  refine su_istore_n (Γ' := [(0, 20), (1, 0), (2, 0)]) hC dX10_moves_4 rfl (by rw [e2]; decide) (by decide) (?_ : SdS X 5 [(0, 20), (1, 0), (2, 0)] [] _)
  refine su_aload_n hC 20 dX10_moves_5 rfl (by decide) (by decide) (?_ : SdS X 6 [(0, 20), (1, 0), (2, 0)] [20] _)
  refine su_getR hC (ci := 10) (j := 32) (C := RX10) (T := TX10) (N := 45) rfl rfl (by decide) in_X10 wl_5_196 rfl dX10_moves_6 (?_ : SdS X 9 [(0, 20), (1, 0), (2, 0)] [100] _)
  refine su_iload_n hC dX10_moves_9 rfl (by decide) (?_ : SdS X 10 [(0, 20), (1, 0), (2, 0)] [0, 100] _)
  refine su_iconst hC dX10_moves_10 ⟨by decide, by decide⟩ (?_ : SdS X 11 [(0, 20), (1, 0), (2, 0)] [0, 0, 100] _)
  refine su_iadd hC dX10_moves_11 (?_ : SdS X 12 [(0, 20), (1, 0), (2, 0)] [0, 100] _)
  refine su_iaload hC dX10_moves_12 (?_ : SdS X 13 [(0, 20), (1, 0), (2, 0)] [0] _)
  refine su_iconst hC dX10_moves_13 ⟨by decide, by decide⟩ (?_ : SdS X 14 [(0, 20), (1, 0), (2, 0)] [0, 0] _)
  refine su_icmp_eq (tgt := 30) hC dX10_moves_14 rfl (?_ : SdS X 30 [(0, 20), (1, 0), (2, 0)] [] _) (?_ : SdS X 17 [(0, 20), (1, 0), (2, 0)] [] _)
  · exact SdS.weak (by decide) (S_30)
  · refine su_aload_n hC 20 dX10_moves_17 rfl (by decide) (by decide) (?_ : SdS X 18 [(0, 20), (1, 0), (2, 0)] [20] _)
    refine su_getR hC (ci := 10) (j := 32) (C := RX10) (T := TX10) (N := 45) rfl rfl (by decide) in_X10 wl_5_196 rfl dX10_moves_18 (?_ : SdS X 21 [(0, 20), (1, 0), (2, 0)] [100] _)
    refine su_iload_n hC dX10_moves_21 rfl (by decide) (?_ : SdS X 22 [(0, 20), (1, 0), (2, 0)] [0, 100] _)
    refine su_iconst hC dX10_moves_22 ⟨by decide, by decide⟩ (?_ : SdS X 23 [(0, 20), (1, 0), (2, 0)] [0, 0, 100] _)
    refine su_iadd hC dX10_moves_23 (?_ : SdS X 24 [(0, 20), (1, 0), (2, 0)] [0, 100] _)
    refine su_iaload hC dX10_moves_24 (?_ : SdS X 25 [(0, 20), (1, 0), (2, 0)] [0] _)
    refine su_iconst hC dX10_moves_25 ⟨by decide, by decide⟩ (?_ : SdS X 26 [(0, 20), (1, 0), (2, 0)] [0, 0] _)
    refine su_icmp_eq (tgt := 30) hC dX10_moves_26 rfl (?_ : SdS X 30 [(0, 20), (1, 0), (2, 0)] [] _) (?_ : SdS X 29 [(0, 20), (1, 0), (2, 0)] [] _)
    · exact SdS.weak (by decide) (S_30)
    · exact su_return hC hT dX10_moves_29

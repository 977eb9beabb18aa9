theorem wl_5_171 : Cond.fieldLink RX10 74 "NarrowRingsModel" "size" "I" ∈ WALL := tb5 (List.mem_of_getElem? (i := 171) rfl) rfl
theorem wl_5_169 : Cond.fieldLink RX10 13 "NarrowRingsModel" "tape" "[B" ∈ WALL := tb5 (List.mem_of_getElem? (i := 169) rfl) rfl
theorem hd_X10_byteAt : yX10_byteAt.cls ≠ "java/lang/invoke/MethodHandle" ∧ yX10_byteAt.cls ≠ "java/lang/invoke/VarHandle" ∧ (parseMethodDescriptor yX10_byteAt.desc).map (fun d => d.parameters.length) = some 1 := by decide +kernel
set_option maxRecDepth 100000 in
set_option maxHeartbeats 4000000 in
theorem M_X10_byteAt (l : Launch) : MtS l yX10_byteAt (Cond.code yX10_byteAt cX10_byteAt 2 (some .int) :: WALL) { frames := 0, cells := 0, slots := 0, locals := 0 } [20, 0] (some 0) T_X10_byteAt := by
  refine MtS.mk (B := E_X10_byteAt) (by decide +kernel) (by decide) (fun _ _ _ hh => hh) ?_
  intro X Q e1 e2 e3 hC hN hT
  subst e1
  have hC : CF X cX10_byteAt RX10 WALL := hC
  have S_22 : SdS X 22 [(0, 20), (1, 0)] [0] (B_X10_byteAt_22 Q) := by
    unfold B_X10_byteAt_22
    exact su_ireturn hC hT dX10_byteAt_22
  refine (?_ : SdS X 0 [(0, 20), (1, 0)] [] (E_X10_byteAt Q))
  unfold E_X10_byteAt
  refine su_iload_n hC dX10_byteAt_0 rfl (by decide) (?_ : SdS X 1 [(0, 20), (1, 0)] [0] _)
  refine su_aload_n hC 20 dX10_byteAt_1 rfl (by decide) (by decide) (?_ : SdS X 2 [(0, 20), (1, 0)] [20, 0] _)
  refine su_getF hC (ci := 10) (j := 7) (C := RX10) (T := TX10) (N := 45) rfl rfl (by decide) in_X10 wl_5_171 rfl dX10_byteAt_2 (?_ : SdS X 5 [(0, 20), (1, 0)] [0, 0] _)
  refine su_icmp_ge (tgt := 21) hC dX10_byteAt_5 rfl (?_ : SdS X 21 [(0, 20), (1, 0)] [] _) (?_ : SdS X 8 [(0, 20), (1, 0)] [] _)
  · refine su_iconst hC dX10_byteAt_21 ⟨by decide, by decide⟩ (?_ : SdS X 22 [(0, 20), (1, 0)] [0] _)
    exact SdS.weak (by decide) (S_22)
  · refine su_aload_n hC 20 dX10_byteAt_8 rfl (by decide) (by decide) (?_ : SdS X 9 [(0, 20), (1, 0)] [20] _)
    refine su_getR hC (ci := 10) (j := 5) (C := RX10) (T := TX10) (N := 45) rfl rfl (by decide) in_X10 wl_5_169 rfl dX10_byteAt_9 (?_ : SdS X 12 [(0, 20), (1, 0)] [102] _)
    refine su_iload_n hC dX10_byteAt_12 rfl (by decide) (?_ : SdS X 13 [(0, 20), (1, 0)] [0, 102] _)
    refine su_baload hC dX10_byteAt_13 (?_ : SdS X 14 [(0, 20), (1, 0)] [0] _)
    refine su_sipush hC dX10_byteAt_14 (by decide) (?_ : SdS X 17 [(0, 20), (1, 0)] [0, 0] _)
    refine su_iand hC dX10_byteAt_17 (?_ : SdS X 18 [(0, 20), (1, 0)] [0] _)
    refine su_goto (tgt := 22) hC dX10_byteAt_18 rfl (?_ : SdS X 22 [(0, 20), (1, 0)] [0] _)
    exact SdS.weak (by decide) (S_22)
theorem hd_X10_isLetter : yX10_isLetter.cls ≠ "java/lang/invoke/MethodHandle" ∧ yX10_isLetter.cls ≠ "java/lang/invoke/VarHandle" ∧ (parseMethodDescriptor yX10_isLetter.desc).map (fun d => d.parameters.length) = some 1 := by decide +kernel
set_option maxRecDepth 100000 in
set_option maxHeartbeats 4000000 in
theorem M_X10_isLetter (l : Launch) : MtS l yX10_isLetter (Cond.code yX10_isLetter cX10_isLetter 1 (some .boolean) :: WALL) { frames := 0, cells := 0, slots := 0, locals := 0 } [0] (some 0) T_X10_isLetter := by
  refine MtS.mk (B := E_X10_isLetter) (by decide +kernel) (by decide) (fun _ _ _ hh => hh) ?_
  intro X Q e1 e2 e3 hC hN hT
  subst e1
  have hC : CF X cX10_isLetter RX10 WALL := hC
  have S_17 : SdS X 17 [(0, 0)] [0] (B_X10_isLetter_17 Q) := by
    unfold B_X10_isLetter_17
    exact su_zreturn hC hT dX10_isLetter_17
  have S_16 : SdS X 16 [(0, 0)] [] (B_X10_isLetter_16 Q) := by
    unfold B_X10_isLetter_16
    refine su_iconst hC dX10_isLetter_16 ⟨by decide, by decide⟩ (?_ : SdS X 17 [(0, 0)] [0] _)
    exact SdS.weak (by decide) (S_17)
  refine (?_ : SdS X 0 [(0, 0)] [] (E_X10_isLetter Q))
  unfold E_X10_isLetter
  refine su_iload_n hC dX10_isLetter_0 rfl (by decide) (?_ : SdS X 1 [(0, 0)] [0] _)
  refine su_bipush hC dX10_isLetter_1 (by decide) (?_ : SdS X 3 [(0, 0)] [0, 0] _)
  refine su_icmp_lt (tgt := 16) hC dX10_isLetter_3 rfl (?_ : SdS X 16 [(0, 0)] [] _) (?_ : SdS X 6 [(0, 0)] [] _)
  · exact SdS.weak (by decide) (S_16)
  · refine su_iload_n hC dX10_isLetter_6 rfl (by decide) (?_ : SdS X 7 [(0, 0)] [0] _)
    refine su_bipush hC dX10_isLetter_7 (by decide) (?_ : SdS X 9 [(0, 0)] [0, 0] _)
    refine su_icmp_gt (tgt := 16) hC dX10_isLetter_9 rfl (?_ : SdS X 16 [(0, 0)] [] _) (?_ : SdS X 12 [(0, 0)] [] _)
    · exact SdS.weak (by decide) (S_16)
    · refine su_iconst hC dX10_isLetter_12 ⟨by decide, by decide⟩ (?_ : SdS X 13 [(0, 0)] [0] _)
      refine su_goto (tgt := 17) hC dX10_isLetter_13 rfl (?_ : SdS X 17 [(0, 0)] [0] _)
      exact SdS.weak (by decide) (S_17)
theorem hd_X10_isDigit : yX10_isDigit.cls ≠ "java/lang/invoke/MethodHandle" ∧ yX10_isDigit.cls ≠ "java/lang/invoke/VarHandle" ∧ (parseMethodDescriptor yX10_isDigit.desc).map (fun d => d.parameters.length) = some 1 := by decide +kernel
set_option maxRecDepth 100000 in
set_option maxHeartbeats 4000000 in
theorem M_X10_isDigit (l : Launch) : MtS l yX10_isDigit (Cond.code yX10_isDigit cX10_isDigit 1 (some .boolean) :: WALL) { frames := 0, cells := 0, slots := 0, locals := 0 } [0] (some 0) T_X10_isDigit := by
  refine MtS.mk (B := E_X10_isDigit) (by decide +kernel) (by decide) (fun _ _ _ hh => hh) ?_
  intro X Q e1 e2 e3 hC hN hT
  subst e1
  have hC : CF X cX10_isDigit RX10 WALL := hC
  have S_17 : SdS X 17 [(0, 0)] [0] (B_X10_isDigit_17 Q) := by
    unfold B_X10_isDigit_17
    exact su_zreturn hC hT dX10_isDigit_17
  have S_16 : SdS X 16 [(0, 0)] [] (B_X10_isDigit_16 Q) := by
    unfold B_X10_isDigit_16
    refine su_iconst hC dX10_isDigit_16 ⟨by decide, by decide⟩ (?_ : SdS X 17 [(0, 0)] [0] _)
    exact SdS.weak (by decide) (S_17)
  refine (?_ : SdS X 0 [(0, 0)] [] (E_X10_isDigit Q))
  unfold E_X10_isDigit
  refine su_iload_n hC dX10_isDigit_0 rfl (by decide) (?_ : SdS X 1 [(0, 0)] [0] _)
  refine su_bipush hC dX10_isDigit_1 (by decide) (?_ : SdS X 3 [(0, 0)] [0, 0] _)
  refine su_icmp_lt (tgt := 16) hC dX10_isDigit_3 rfl (?_ : SdS X 16 [(0, 0)] [] _) (?_ : SdS X 6 [(0, 0)] [] _)
  · exact SdS.weak (by decide) (S_16)
  · refine su_iload_n hC dX10_isDigit_6 rfl (by decide) (?_ : SdS X 7 [(0, 0)] [0] _)
    refine su_bipush hC dX10_isDigit_7 (by decide) (?_ : SdS X 9 [(0, 0)] [0, 0] _)
    refine su_icmp_gt (tgt := 16) hC dX10_isDigit_9 rfl (?_ : SdS X 16 [(0, 0)] [] _) (?_ : SdS X 12 [(0, 0)] [] _)
    · exact SdS.weak (by decide) (S_16)
    · refine su_iconst hC dX10_isDigit_12 ⟨by decide, by decide⟩ (?_ : SdS X 13 [(0, 0)] [0] _)
      refine su_goto (tgt := 17) hC dX10_isDigit_13 rfl (?_ : SdS X 17 [(0, 0)] [0] _)
      exact SdS.weak (by decide) (S_17)
theorem wl_5_172 : Cond.fieldLink RX10 92 "NarrowRingsModel" "at" "I" ∈ WALL := tb5 (List.mem_of_getElem? (i := 172) rfl) rfl
theorem wl_6_193 : Cond.methodLink RX10 95 yX10_byteAt ∈ WALL := tb6 (List.mem_of_getElem? (i := 193) rfl) rfl
theorem wl_6_195 : Cond.instanceMethod yX10_byteAt ∈ WALL := tb6 (List.mem_of_getElem? (i := 195) rfl) rfl
theorem wp_65 : Cond.selects RX10 yX10_byteAt yX10_byteAt ∈ WALL := tbS (List.mem_of_getElem? (i := 65) rfl)
theorem wl_6_196 : Cond.code yX10_byteAt cX10_byteAt 2 (some .int) ∈ WALL := tb6 (List.mem_of_getElem? (i := 196) rfl) rfl
theorem wl_5_175 : Cond.fieldLink RX10 101 "NarrowRingsModel" "sign" "I" ∈ WALL := tb5 (List.mem_of_getElem? (i := 175) rfl) rfl
theorem wl_6_197 : Cond.methodLink RX10 104 yX10_isLetter ∈ WALL := tb6 (List.mem_of_getElem? (i := 197) rfl) rfl
theorem wl_6_198 : Cond.static yX10_isLetter ∈ WALL := tb6 (List.mem_of_getElem? (i := 198) rfl) rfl
theorem wl_6_199 : Cond.code yX10_isLetter cX10_isLetter 1 (some .boolean) ∈ WALL := tb6 (List.mem_of_getElem? (i := 199) rfl) rfl
theorem wl_6_201 : Cond.methodLink RX10 112 yX10_isDigit ∈ WALL := tb6 (List.mem_of_getElem? (i := 201) rfl) rfl
theorem wl_6_202 : Cond.static yX10_isDigit ∈ WALL := tb6 (List.mem_of_getElem? (i := 202) rfl) rfl
theorem wl_6_203 : Cond.code yX10_isDigit cX10_isDigit 1 (some .boolean) ∈ WALL := tb6 (List.mem_of_getElem? (i := 203) rfl) rfl
theorem wl_5_176 : Cond.fieldLink RX10 115 "NarrowRingsModel" "number" "I" ∈ WALL := tb5 (List.mem_of_getElem? (i := 176) rfl) rfl
theorem wl_5_179 : Cond.fieldLink RX10 108 "NarrowRingsModel" "word" "J" ∈ WALL := tb5 (List.mem_of_getElem? (i := 179) rfl) rfl
theorem wl_6_200 : Cond.constantLong RX10 83 (Int64.ofInt 32) ∈ WALL := tb6 (List.mem_of_getElem? (i := 200) rfl) rfl
theorem hd_X10_goesOn : yX10_goesOn.cls ≠ "java/lang/invoke/MethodHandle" ∧ yX10_goesOn.cls ≠ "java/lang/invoke/VarHandle" ∧ (parseMethodDescriptor yX10_goesOn.desc).map (fun d => d.parameters.length) = some 0 := by decide +kernel
set_option maxRecDepth 100000 in
set_option maxHeartbeats 4000000 in
theorem M_X10_goesOn (l : Launch) : MtS l yX10_goesOn (Cond.code yX10_goesOn cX10_goesOn 3 none :: WALL) { frames := 1, cells := 0, slots := 0, locals := 21 } [20] none T_X10_goesOn := by
  refine MtS.mk (B := E_X10_goesOn) (by decide +kernel) (by decide) (fun _ _ _ hh => hh) ?_
  intro X Q e1 e2 e3 hC hN hT
  subst e1
  have hC : CF X cX10_goesOn RX10 WALL := hC
  have S_281 : SdS X 281 [(0, 20), (1, 0), (2, 0)] [] (B_X10_goesOn_281 Q) := by
    unfold B_X10_goesOn_281
    exact su_return hC hT dX10_goesOn_281
  have S_261 : SdS X 261 [(0, 20), (1, 0), (2, 0)] [] (B_X10_goesOn_261 Q) := by
    unfold B_X10_goesOn_261
    refine su_aload_n hC 20 dX10_goesOn_261 rfl (by decide) (by decide) (?_ : SdS X 262 [(0, 20), (1, 0), (2, 0)] [20] _)
    refine su_iconst hC dX10_goesOn_262 ⟨by decide, by decide⟩ (?_ : SdS X 263 [(0, 20), (1, 0), (2, 0)] [0, 20] _)
    refine su_putF hC (ci := 10) (j := 9) (C := RX10) (T := TX10) (N := 45) tyX10 tyX10_ok nmX10 rfl rfl (by decide) in_X10 rfl rfl wl_5_173 rfl dX10_goesOn_263 (?_ : SdS X 266 [(0, 20), (1, 0), (2, 0)] [] _)
    refine su_aload_n hC 20 dX10_goesOn_266 rfl (by decide) (by decide) (?_ : SdS X 267 [(0, 20), (1, 0), (2, 0)] [20] _)
    refine su_iload_n hC dX10_goesOn_267 rfl (by decide) (?_ : SdS X 268 [(0, 20), (1, 0), (2, 0)] [0, 20] _)
    refine su_putF hC (ci := 10) (j := 11) (C := RX10) (T := TX10) (N := 45) tyX10 tyX10_ok nmX10 rfl rfl (by decide) in_X10 rfl rfl wl_5_175 rfl dX10_goesOn_268 (?_ : SdS X 271 [(0, 20), (1, 0), (2, 0)] [] _)
    refine su_aload_n hC 20 dX10_goesOn_271 rfl (by decide) (by decide) (?_ : SdS X 272 [(0, 20), (1, 0), (2, 0)] [20] _)
    refine su_dup hC (by decide) dX10_goesOn_272 (?_ : SdS X 273 [(0, 20), (1, 0), (2, 0)] [20, 20] _)
    refine su_getF hC (ci := 10) (j := 8) (C := RX10) (T := TX10) (N := 45) rfl rfl (by decide) in_X10 wl_5_172 rfl dX10_goesOn_273 (?_ : SdS X 276 [(0, 20), (1, 0), (2, 0)] [0, 20] _)
    refine su_iconst hC dX10_goesOn_276 ⟨by decide, by decide⟩ (?_ : SdS X 277 [(0, 20), (1, 0), (2, 0)] [0, 0, 20] _)
    refine su_iadd hC dX10_goesOn_277 (?_ : SdS X 278 [(0, 20), (1, 0), (2, 0)] [0, 20] _)
    refine su_putF hC (ci := 10) (j := 8) (C := RX10) (T := TX10) (N := 45) tyX10 tyX10_ok nmX10 rfl rfl (by decide) in_X10 rfl rfl wl_5_172 rfl dX10_goesOn_278 (?_ : SdS X 281 [(0, 20), (1, 0), (2, 0)] [] _)
    exact SdS.weak (by decide) (S_281)
  have S_220 : ∀ (k178 : xK), SdS X 178 [(0, 20), (1, 0), (2, 0)] [] k178 → SdS X 220 [(0, 20), (1, 0), (2, 0)] [] (B_X10_goesOn_220 Q k178) := by
    intro k178 h178
    unfold B_X10_goesOn_220
    refine su_iinc (Γ' := [(0, 20), (1, 0), (2, 0)]) hC dX10_goesOn_220 (by decide) (by rw [e2]; decide) (by decide) (?_ : SdS X 223 [(0, 20), (1, 0), (2, 0)] [] _)
    refine su_aload_n hC 20 dX10_goesOn_223 rfl (by decide) (by decide) (?_ : SdS X 224 [(0, 20), (1, 0), (2, 0)] [20] _)
    refine su_dup hC (by decide) dX10_goesOn_224 (?_ : SdS X 225 [(0, 20), (1, 0), (2, 0)] [20, 20] _)
    refine su_getF hC (ci := 10) (j := 8) (C := RX10) (T := TX10) (N := 45) rfl rfl (by decide) in_X10 wl_5_172 rfl dX10_goesOn_225 (?_ : SdS X 228 [(0, 20), (1, 0), (2, 0)] [0, 20] _)
    refine su_iconst hC dX10_goesOn_228 ⟨by decide, by decide⟩ (?_ : SdS X 229 [(0, 20), (1, 0), (2, 0)] [0, 0, 20] _)
    refine su_iadd hC dX10_goesOn_229 (?_ : SdS X 230 [(0, 20), (1, 0), (2, 0)] [0, 20] _)
    refine su_putF hC (ci := 10) (j := 8) (C := RX10) (T := TX10) (N := 45) tyX10 tyX10_ok nmX10 rfl rfl (by decide) in_X10 rfl rfl wl_5_172 rfl dX10_goesOn_230 (?_ : SdS X 233 [(0, 20), (1, 0), (2, 0)] [] _)
    refine su_goto (tgt := 178) hC dX10_goesOn_233 rfl (?_ : SdS X 178 [(0, 20), (1, 0), (2, 0)] [] _)
    exact SdS.weak (by decide) h178
  have S_178 : SdS X 178 [(0, 20), (1, 0), (2, 0)] [] (L_X10_goesOn_178 Q) := by
    unfold L_X10_goesOn_178
    refine SdS.loop (fun k178 h178 => ?_)
    refine su_aload_n hC 20 dX10_goesOn_178 rfl (by decide) (by decide) (?_ : SdS X 179 [(0, 20), (1, 0), (2, 0)] [20] _)
    refine su_aload_n hC 20 dX10_goesOn_179 rfl (by decide) (by decide) (?_ : SdS X 180 [(0, 20), (1, 0), (2, 0)] [20, 20] _)
    refine su_getF hC (ci := 10) (j := 8) (C := RX10) (T := TX10) (N := 45) rfl rfl (by decide) in_X10 wl_5_172 rfl dX10_goesOn_180 (?_ : SdS X 183 [(0, 20), (1, 0), (2, 0)] [0, 20] _)
    refine su_inv0 (τ := []) (τr := [0]) (ci := 10) (q := (RX10, TX10, 45)) hC WG (M_X10_byteAt _) rfl rfl rfl rfl  rfl rfl wl_6_193 wl_6_195 wp_65 wl_1_10 wl_6_196 hd_X10_byteAt (by rw [e3]; decide) (by decide) dX10_goesOn_183 (?_ : SdS X 186 [(0, 20), (1, 0), (2, 0)] [0] _)
    refine su_invs (τ := []) (τs := [0]) hC false "" WG (M_X10_isDigit _) rfl rfl rfl rfl wl_6_201 wl_6_202 wl_1_10 wl_6_203 hd_X10_isDigit (by rw [e3]; decide) (by decide) dX10_goesOn_186 (?_ : SdS X 189 [(0, 20), (1, 0), (2, 0)] [0] _)
    refine su_if_eq (tgt := 236) hC dX10_goesOn_189 rfl (?_ : SdS X 236 [(0, 20), (1, 0), (2, 0)] [] _) (?_ : SdS X 192 [(0, 20), (1, 0), (2, 0)] [] _)
    · refine su_iload_n hC dX10_goesOn_236 rfl (by decide) (?_ : SdS X 237 [(0, 20), (1, 0), (2, 0)] [0] _)
      refine su_iconst hC dX10_goesOn_237 ⟨by decide, by decide⟩ (?_ : SdS X 238 [(0, 20), (1, 0), (2, 0)] [0, 0] _)
      refine su_icmp_gt (tgt := 281) hC dX10_goesOn_238 rfl (?_ : SdS X 281 [(0, 20), (1, 0), (2, 0)] [] _) (?_ : SdS X 241 [(0, 20), (1, 0), (2, 0)] [] _)
      · exact SdS.weak (by decide) (S_281)
      · refine su_aload_n hC 20 dX10_goesOn_241 rfl (by decide) (by decide) (?_ : SdS X 242 [(0, 20), (1, 0), (2, 0)] [20] _)
        refine su_iconst hC dX10_goesOn_242 ⟨by decide, by decide⟩ (?_ : SdS X 243 [(0, 20), (1, 0), (2, 0)] [0, 20] _)
        refine su_putF hC (ci := 10) (j := 9) (C := RX10) (T := TX10) (N := 45) tyX10 tyX10_ok nmX10 rfl rfl (by decide) in_X10 rfl rfl wl_5_173 rfl dX10_goesOn_243 (?_ : SdS X 246 [(0, 20), (1, 0), (2, 0)] [] _)
        refine su_goto (tgt := 281) hC dX10_goesOn_246 rfl (?_ : SdS X 281 [(0, 20), (1, 0), (2, 0)] [] _)
        exact SdS.weak (by decide) (S_281)
    · refine su_iload_n hC dX10_goesOn_192 rfl (by decide) (?_ : SdS X 193 [(0, 20), (1, 0), (2, 0)] [0] _)
      refine su_iconst hC dX10_goesOn_193 ⟨by decide, by decide⟩ (?_ : SdS X 194 [(0, 20), (1, 0), (2, 0)] [0, 0] _)
      refine su_icmp_ge (tgt := 220) hC dX10_goesOn_194 rfl (?_ : SdS X 220 [(0, 20), (1, 0), (2, 0)] [] _) (?_ : SdS X 197 [(0, 20), (1, 0), (2, 0)] [] _)
      · exact SdS.weak (by decide) (S_220 k178 h178)
      · refine su_aload_n hC 20 dX10_goesOn_197 rfl (by decide) (by decide) (?_ : SdS X 198 [(0, 20), (1, 0), (2, 0)] [20] _)
        refine su_bipush hC dX10_goesOn_198 (by decide) (?_ : SdS X 200 [(0, 20), (1, 0), (2, 0)] [0, 20] _)
        refine su_aload_n hC 20 dX10_goesOn_200 rfl (by decide) (by decide) (?_ : SdS X 201 [(0, 20), (1, 0), (2, 0)] [20, 0, 20] _)
        refine su_getF hC (ci := 10) (j := 12) (C := RX10) (T := TX10) (N := 45) rfl rfl (by decide) in_X10 wl_5_176 rfl dX10_goesOn_201 (?_ : SdS X 204 [(0, 20), (1, 0), (2, 0)] [0, 0, 20] _)
        refine su_imul hC dX10_goesOn_204 (?_ : SdS X 205 [(0, 20), (1, 0), (2, 0)] [0, 20] _)
        refine su_aload_n hC 20 dX10_goesOn_205 rfl (by decide) (by decide) (?_ : SdS X 206 [(0, 20), (1, 0), (2, 0)] [20, 0, 20] _)
        refine su_aload_n hC 20 dX10_goesOn_206 rfl (by decide) (by decide) (?_ : SdS X 207 [(0, 20), (1, 0), (2, 0)] [20, 20, 0, 20] _)
        refine su_getF hC (ci := 10) (j := 8) (C := RX10) (T := TX10) (N := 45) rfl rfl (by decide) in_X10 wl_5_172 rfl dX10_goesOn_207 (?_ : SdS X 210 [(0, 20), (1, 0), (2, 0)] [0, 20, 0, 20] _)
        refine su_inv0 (τ := [0, 20]) (τr := [0]) (ci := 10) (q := (RX10, TX10, 45)) hC WG (M_X10_byteAt _) rfl rfl rfl rfl  rfl rfl wl_6_193 wl_6_195 wp_65 wl_1_10 wl_6_196 hd_X10_byteAt (by rw [e3]; decide) (by decide) dX10_goesOn_210 (?_ : SdS X 213 [(0, 20), (1, 0), (2, 0)] [0, 0, 20] _)
        refine su_iadd hC dX10_goesOn_213 (?_ : SdS X 214 [(0, 20), (1, 0), (2, 0)] [0, 20] _)
        refine su_bipush hC dX10_goesOn_214 (by decide) (?_ : SdS X 216 [(0, 20), (1, 0), (2, 0)] [0, 0, 20] _)
        refine su_isub hC dX10_goesOn_216 (?_ : SdS X 217 [(0, 20), (1, 0), (2, 0)] [0, 20] _)
        refine su_putF hC (ci := 10) (j := 12) (C := RX10) (T := TX10) (N := 45) tyX10 tyX10_ok nmX10 rfl rfl (by decide) in_X10 rfl rfl wl_5_176 rfl dX10_goesOn_217 (?_ : SdS X 220 [(0, 20), (1, 0), (2, 0)] [] _)
        exact SdS.weak (by decide) (S_220 k178 h178)
  have S_136 : ∀ (k89 : xK), SdS X 89 [(0, 20), (1, 0), (2, 0)] [] k89 → SdS X 136 [(0, 20), (1, 0), (2, 0)] [] (B_X10_goesOn_136 Q k89) := by
    intro k89 h89
    unfold B_X10_goesOn_136
    refine su_iinc (Γ' := [(0, 20), (1, 0), (2, 0)]) hC dX10_goesOn_136 (by decide) (by rw [e2]; decide) (by decide) (?_ : SdS X 139 [(0, 20), (1, 0), (2, 0)] [] _)
    refine su_aload_n hC 20 dX10_goesOn_139 rfl (by decide) (by decide) (?_ : SdS X 140 [(0, 20), (1, 0), (2, 0)] [20] _)
    refine su_dup hC (by decide) dX10_goesOn_140 (?_ : SdS X 141 [(0, 20), (1, 0), (2, 0)] [20, 20] _)
    refine su_getF hC (ci := 10) (j := 8) (C := RX10) (T := TX10) (N := 45) rfl rfl (by decide) in_X10 wl_5_172 rfl dX10_goesOn_141 (?_ : SdS X 144 [(0, 20), (1, 0), (2, 0)] [0, 20] _)
    refine su_iconst hC dX10_goesOn_144 ⟨by decide, by decide⟩ (?_ : SdS X 145 [(0, 20), (1, 0), (2, 0)] [0, 0, 20] _)
    refine su_iadd hC dX10_goesOn_145 (?_ : SdS X 146 [(0, 20), (1, 0), (2, 0)] [0, 20] _)
    refine su_putF hC (ci := 10) (j := 8) (C := RX10) (T := TX10) (N := 45) tyX10 tyX10_ok nmX10 rfl rfl (by decide) in_X10 rfl rfl wl_5_172 rfl dX10_goesOn_146 (?_ : SdS X 149 [(0, 20), (1, 0), (2, 0)] [] _)
    refine su_goto (tgt := 89) hC dX10_goesOn_149 rfl (?_ : SdS X 89 [(0, 20), (1, 0), (2, 0)] [] _)
    exact SdS.weak (by decide) h89
  have S_89 : SdS X 89 [(0, 20), (1, 0), (2, 0)] [] (L_X10_goesOn_89 Q) := by
    unfold L_X10_goesOn_89
    refine SdS.loop (fun k89 h89 => ?_)
    refine su_aload_n hC 20 dX10_goesOn_89 rfl (by decide) (by decide) (?_ : SdS X 90 [(0, 20), (1, 0), (2, 0)] [20] _)
    refine su_aload_n hC 20 dX10_goesOn_90 rfl (by decide) (by decide) (?_ : SdS X 91 [(0, 20), (1, 0), (2, 0)] [20, 20] _)
    refine su_getF hC (ci := 10) (j := 8) (C := RX10) (T := TX10) (N := 45) rfl rfl (by decide) in_X10 wl_5_172 rfl dX10_goesOn_91 (?_ : SdS X 94 [(0, 20), (1, 0), (2, 0)] [0, 20] _)
    refine su_inv0 (τ := []) (τr := [0]) (ci := 10) (q := (RX10, TX10, 45)) hC WG (M_X10_byteAt _) rfl rfl rfl rfl  rfl rfl wl_6_193 wl_6_195 wp_65 wl_1_10 wl_6_196 hd_X10_byteAt (by rw [e3]; decide) (by decide) dX10_goesOn_94 (?_ : SdS X 97 [(0, 20), (1, 0), (2, 0)] [0] _)
    refine su_invs (τ := []) (τs := [0]) hC false "" WG (M_X10_isLetter _) rfl rfl rfl rfl wl_6_197 wl_6_198 wl_1_10 wl_6_199 hd_X10_isLetter (by rw [e3]; decide) (by decide) dX10_goesOn_97 (?_ : SdS X 100 [(0, 20), (1, 0), (2, 0)] [0] _)
    refine su_if_eq (tgt := 152) hC dX10_goesOn_100 rfl (?_ : SdS X 152 [(0, 20), (1, 0), (2, 0)] [] _) (?_ : SdS X 103 [(0, 20), (1, 0), (2, 0)] [] _)
    · refine su_iload_n hC dX10_goesOn_152 rfl (by decide) (?_ : SdS X 153 [(0, 20), (1, 0), (2, 0)] [0] _)
      refine su_bipush hC dX10_goesOn_153 (by decide) (?_ : SdS X 155 [(0, 20), (1, 0), (2, 0)] [0, 0] _)
      refine su_icmp_gt (tgt := 281) hC dX10_goesOn_155 rfl (?_ : SdS X 281 [(0, 20), (1, 0), (2, 0)] [] _) (?_ : SdS X 158 [(0, 20), (1, 0), (2, 0)] [] _)
      · exact SdS.weak (by decide) (S_281)
      · refine su_aload_n hC 20 dX10_goesOn_158 rfl (by decide) (by decide) (?_ : SdS X 159 [(0, 20), (1, 0), (2, 0)] [20] _)
        refine su_iconst hC dX10_goesOn_159 ⟨by decide, by decide⟩ (?_ : SdS X 160 [(0, 20), (1, 0), (2, 0)] [0, 20] _)
        refine su_putF hC (ci := 10) (j := 9) (C := RX10) (T := TX10) (N := 45) tyX10 tyX10_ok nmX10 rfl rfl (by decide) in_X10 rfl rfl wl_5_173 rfl dX10_goesOn_160 (?_ : SdS X 163 [(0, 20), (1, 0), (2, 0)] [] _)
        refine su_goto (tgt := 281) hC dX10_goesOn_163 rfl (?_ : SdS X 281 [(0, 20), (1, 0), (2, 0)] [] _)
        exact SdS.weak (by decide) (S_281)
    · refine su_iload_n hC dX10_goesOn_103 rfl (by decide) (?_ : SdS X 104 [(0, 20), (1, 0), (2, 0)] [0] _)
      refine su_bipush hC dX10_goesOn_104 (by decide) (?_ : SdS X 106 [(0, 20), (1, 0), (2, 0)] [0, 0] _)
      refine su_icmp_ge (tgt := 136) hC dX10_goesOn_106 rfl (?_ : SdS X 136 [(0, 20), (1, 0), (2, 0)] [] _) (?_ : SdS X 109 [(0, 20), (1, 0), (2, 0)] [] _)
      · exact SdS.weak (by decide) (S_136 k89 h89)
      · refine su_aload_n hC 20 dX10_goesOn_109 rfl (by decide) (by decide) (?_ : SdS X 110 [(0, 20), (1, 0), (2, 0)] [20] _)
        refine su_ldc2 hC wl_6_200 dX10_goesOn_110 ⟨by decide, by decide⟩ (?_ : SdS X 113 [(0, 20), (1, 0), (2, 0)] [1, 20] _)
        refine su_aload_n hC 20 dX10_goesOn_113 rfl (by decide) (by decide) (?_ : SdS X 114 [(0, 20), (1, 0), (2, 0)] [20, 1, 20] _)
        refine su_getF hC (ci := 10) (j := 15) (C := RX10) (T := TX10) (N := 45) rfl rfl (by decide) in_X10 wl_5_179 rfl dX10_goesOn_114 (?_ : SdS X 117 [(0, 20), (1, 0), (2, 0)] [1, 1, 20] _)
        refine su_lmul hC dX10_goesOn_117 (?_ : SdS X 118 [(0, 20), (1, 0), (2, 0)] [1, 20] _)
        refine su_aload_n hC 20 dX10_goesOn_118 rfl (by decide) (by decide) (?_ : SdS X 119 [(0, 20), (1, 0), (2, 0)] [20, 1, 20] _)
        refine su_aload_n hC 20 dX10_goesOn_119 rfl (by decide) (by decide) (?_ : SdS X 120 [(0, 20), (1, 0), (2, 0)] [20, 20, 1, 20] _)
        refine su_getF hC (ci := 10) (j := 8) (C := RX10) (T := TX10) (N := 45) rfl rfl (by decide) in_X10 wl_5_172 rfl dX10_goesOn_120 (?_ : SdS X 123 [(0, 20), (1, 0), (2, 0)] [0, 20, 1, 20] _)
        refine su_inv0 (τ := [1, 20]) (τr := [0]) (ci := 10) (q := (RX10, TX10, 45)) hC WG (M_X10_byteAt _) rfl rfl rfl rfl  rfl rfl wl_6_193 wl_6_195 wp_65 wl_1_10 wl_6_196 hd_X10_byteAt (by rw [e3]; decide) (by decide) dX10_goesOn_123 (?_ : SdS X 126 [(0, 20), (1, 0), (2, 0)] [0, 1, 20] _)
        refine su_bipush hC dX10_goesOn_126 (by decide) (?_ : SdS X 128 [(0, 20), (1, 0), (2, 0)] [0, 0, 1, 20] _)
        refine su_isub hC dX10_goesOn_128 (?_ : SdS X 129 [(0, 20), (1, 0), (2, 0)] [0, 1, 20] _)
        refine su_iconst hC dX10_goesOn_129 ⟨by decide, by decide⟩ (?_ : SdS X 130 [(0, 20), (1, 0), (2, 0)] [0, 0, 1, 20] _)
        refine su_iadd hC dX10_goesOn_130 (?_ : SdS X 131 [(0, 20), (1, 0), (2, 0)] [0, 1, 20] _)
        refine su_i2l hC dX10_goesOn_131 (?_ : SdS X 132 [(0, 20), (1, 0), (2, 0)] [1, 1, 20] _)
        refine su_ladd hC dX10_goesOn_132 (?_ : SdS X 133 [(0, 20), (1, 0), (2, 0)] [1, 20] _)
        refine su_putF hC (ci := 10) (j := 15) (C := RX10) (T := TX10) (N := 45) tyX10 tyX10_ok nmX10 rfl rfl (by decide) in_X10 rfl rfl wl_5_179 rfl dX10_goesOn_133 (?_ : SdS X 136 [(0, 20), (1, 0), (2, 0)] [] _)
        exact SdS.weak (by decide) (S_136 k89 h89)
  have S_9 : SdS X 9 [(0, 20)] [] (L_X10_goesOn_9 Q) := by
    unfold L_X10_goesOn_9
    refine SdS.loop (fun k9 h9 => ?_)
    refine su_aload_n hC 20 dX10_goesOn_9 rfl (by decide) (by decide) (?_ : SdS X 10 [(0, 20)] [20] _)
    refine su_aload_n hC 20 dX10_goesOn_10 rfl (by decide) (by decide) (?_ : SdS X 11 [(0, 20)] [20, 20] _)
    refine su_getF hC (ci := 10) (j := 8) (C := RX10) (T := TX10) (N := 45) rfl rfl (by decide) in_X10 wl_5_172 rfl dX10_goesOn_11 (?_ : SdS X 14 [(0, 20)] [0, 20] _)
    refine su_inv0 (τ := []) (τr := [0]) (ci := 10) (q := (RX10, TX10, 45)) hC WG (M_X10_byteAt _) rfl rfl rfl rfl  rfl rfl wl_6_193 wl_6_195 wp_65 wl_1_10 wl_6_196 hd_X10_byteAt (by rw [e3]; decide) (by decide) dX10_goesOn_14 (?_ : SdS X 17 [(0, 20)] [0] _)
    refine su_bipush hC dX10_goesOn_17 (by decide) (?_ : SdS X 19 [(0, 20)] [0, 0] _)
    refine su_icmp_ne (tgt := 35) hC dX10_goesOn_19 rfl (?_ : SdS X 35 [(0, 20)] [] _) (?_ : SdS X 22 [(0, 20)] [] _)
    · refine su_aload_n hC 20 dX10_goesOn_35 rfl (by decide) (by decide) (?_ : SdS X 36 [(0, 20)] [20] _)
      refine su_aload_n hC 20 dX10_goesOn_36 rfl (by decide) (by decide) (?_ : SdS X 37 [(0, 20)] [20, 20] _)
      refine su_getF hC (ci := 10) (j := 8) (C := RX10) (T := TX10) (N := 45) rfl rfl (by decide) in_X10 wl_5_172 rfl dX10_goesOn_37 (?_ : SdS X 40 [(0, 20)] [0, 20] _)
      refine su_putF hC (ci := 10) (j := 10) (C := RX10) (T := TX10) (N := 45) tyX10 tyX10_ok nmX10 rfl rfl (by decide) in_X10 rfl rfl wl_5_174 rfl dX10_goesOn_40 (?_ : SdS X 43 [(0, 20)] [] _)
      refine su_aload_n hC 20 dX10_goesOn_43 rfl (by decide) (by decide) (?_ : SdS X 44 [(0, 20)] [20] _)
      refine su_iconst hC dX10_goesOn_44 ⟨by decide, by decide⟩ (?_ : SdS X 45 [(0, 20)] [0, 20] _)
      refine su_putF hC (ci := 10) (j := 9) (C := RX10) (T := TX10) (N := 45) tyX10 tyX10_ok nmX10 rfl rfl (by decide) in_X10 rfl rfl wl_5_173 rfl dX10_goesOn_45 (?_ : SdS X 48 [(0, 20)] [] _)
      refine su_aload_n hC 20 dX10_goesOn_48 rfl (by decide) (by decide) (?_ : SdS X 49 [(0, 20)] [20] _)
      refine su_iconst hC dX10_goesOn_49 ⟨by decide, by decide⟩ (?_ : SdS X 50 [(0, 20)] [0, 20] _)
      refine su_putF hC (ci := 10) (j := 11) (C := RX10) (T := TX10) (N := 45) tyX10 tyX10_ok nmX10 rfl rfl (by decide) in_X10 rfl rfl wl_5_175 rfl dX10_goesOn_50 (?_ : SdS X 53 [(0, 20)] [] _)
      refine su_aload_n hC 20 dX10_goesOn_53 rfl (by decide) (by decide) (?_ : SdS X 54 [(0, 20)] [20] _)
      refine su_aload_n hC 20 dX10_goesOn_54 rfl (by decide) (by decide) (?_ : SdS X 55 [(0, 20)] [20, 20] _)
      refine su_getF hC (ci := 10) (j := 8) (C := RX10) (T := TX10) (N := 45) rfl rfl (by decide) in_X10 wl_5_172 rfl dX10_goesOn_55 (?_ : SdS X 58 [(0, 20)] [0, 20] _)
      refine su_inv0 (τ := []) (τr := [0]) (ci := 10) (q := (RX10, TX10, 45)) hC WG (M_X10_byteAt _) rfl rfl rfl rfl  rfl rfl wl_6_193 wl_6_195 wp_65 wl_1_10 wl_6_196 hd_X10_byteAt (by rw [e3]; decide) (by decide) dX10_goesOn_58 (?_ : SdS X 61 [(0, 20)] [0] _)
      refine su_istore_n (Γ' := [(0, 20), (1, 0)]) hC dX10_goesOn_61 rfl (by rw [e2]; decide) (by decide) (?_ : SdS X 62 [(0, 20), (1, 0)] [] _)
      refine su_iconst hC dX10_goesOn_62 ⟨by decide, by decide⟩ (?_ : SdS X 63 [(0, 20), (1, 0)] [0] _)
      refine su_istore_n (Γ' := [(0, 20), (1, 0), (2, 0)]) hC dX10_goesOn_63 rfl (by rw [e2]; decide) (by decide) (?_ : SdS X 64 [(0, 20), (1, 0), (2, 0)] [] _)
      refine su_iload_n hC dX10_goesOn_64 rfl (by decide) (?_ : SdS X 65 [(0, 20), (1, 0), (2, 0)] [0] _)
      refine su_iconst hC dX10_goesOn_65 ⟨by decide, by decide⟩ (?_ : SdS X 66 [(0, 20), (1, 0), (2, 0)] [0, 0] _)
      refine su_icmp_ne (tgt := 77) hC dX10_goesOn_66 rfl (?_ : SdS X 77 [(0, 20), (1, 0), (2, 0)] [] _) (?_ : SdS X 69 [(0, 20), (1, 0), (2, 0)] [] _)
      · refine su_iload_n hC dX10_goesOn_77 rfl (by decide) (?_ : SdS X 78 [(0, 20), (1, 0), (2, 0)] [0] _)
        refine su_invs (τ := []) (τs := [0]) hC false "" WG (M_X10_isLetter _) rfl rfl rfl rfl wl_6_197 wl_6_198 wl_1_10 wl_6_199 hd_X10_isLetter (by rw [e3]; decide) (by decide) dX10_goesOn_78 (?_ : SdS X 81 [(0, 20), (1, 0), (2, 0)] [0] _)
        refine su_if_eq (tgt := 166) hC dX10_goesOn_81 rfl (?_ : SdS X 166 [(0, 20), (1, 0), (2, 0)] [] _) (?_ : SdS X 84 [(0, 20), (1, 0), (2, 0)] [] _)
        · refine su_iload_n hC dX10_goesOn_166 rfl (by decide) (?_ : SdS X 167 [(0, 20), (1, 0), (2, 0)] [0] _)
          refine su_invs (τ := []) (τs := [0]) hC false "" WG (M_X10_isDigit _) rfl rfl rfl rfl wl_6_201 wl_6_202 wl_1_10 wl_6_203 hd_X10_isDigit (by rw [e3]; decide) (by decide) dX10_goesOn_167 (?_ : SdS X 170 [(0, 20), (1, 0), (2, 0)] [0] _)
          refine su_if_eq (tgt := 249) hC dX10_goesOn_170 rfl (?_ : SdS X 249 [(0, 20), (1, 0), (2, 0)] [] _) (?_ : SdS X 173 [(0, 20), (1, 0), (2, 0)] [] _)
          · refine su_iload_n hC dX10_goesOn_249 rfl (by decide) (?_ : SdS X 250 [(0, 20), (1, 0), (2, 0)] [0] _)
            refine su_bipush hC dX10_goesOn_250 (by decide) (?_ : SdS X 252 [(0, 20), (1, 0), (2, 0)] [0, 0] _)
            refine su_icmp_eq (tgt := 261) hC dX10_goesOn_252 rfl (?_ : SdS X 261 [(0, 20), (1, 0), (2, 0)] [] _) (?_ : SdS X 255 [(0, 20), (1, 0), (2, 0)] [] _)
            · exact SdS.weak (by decide) (S_261)
            · refine su_iload_n hC dX10_goesOn_255 rfl (by decide) (?_ : SdS X 256 [(0, 20), (1, 0), (2, 0)] [0] _)
              refine su_bipush hC dX10_goesOn_256 (by decide) (?_ : SdS X 258 [(0, 20), (1, 0), (2, 0)] [0, 0] _)
              refine su_icmp_ne (tgt := 281) hC dX10_goesOn_258 rfl (?_ : SdS X 281 [(0, 20), (1, 0), (2, 0)] [] _) (?_ : SdS X 261 [(0, 20), (1, 0), (2, 0)] [] _)
              · exact SdS.weak (by decide) (S_281)
              · exact SdS.weak (by decide) (S_261)
          · refine su_aload_n hC 20 dX10_goesOn_173 rfl (by decide) (by decide) (?_ : SdS X 174 [(0, 20), (1, 0), (2, 0)] [20] _)
            refine su_iconst hC dX10_goesOn_174 ⟨by decide, by decide⟩ (?_ : SdS X 175 [(0, 20), (1, 0), (2, 0)] [0, 20] _)
            refine su_putF hC (ci := 10) (j := 12) (C := RX10) (T := TX10) (N := 45) tyX10 tyX10_ok nmX10 rfl rfl (by decide) in_X10 rfl rfl wl_5_176 rfl dX10_goesOn_175 (?_ : SdS X 178 [(0, 20), (1, 0), (2, 0)] [] _)
            exact SdS.weak (by decide) (S_178)
        · refine su_aload_n hC 20 dX10_goesOn_84 rfl (by decide) (by decide) (?_ : SdS X 85 [(0, 20), (1, 0), (2, 0)] [20] _)
          refine su_lconst hC rfl dX10_goesOn_85 (?_ : SdS X 86 [(0, 20), (1, 0), (2, 0)] [1, 20] _)
          refine su_putF hC (ci := 10) (j := 15) (C := RX10) (T := TX10) (N := 45) tyX10 tyX10_ok nmX10 rfl rfl (by decide) in_X10 rfl rfl wl_5_179 rfl dX10_goesOn_86 (?_ : SdS X 89 [(0, 20), (1, 0), (2, 0)] [] _)
          exact SdS.weak (by decide) (S_89)
      · refine su_aload_n hC 20 dX10_goesOn_69 rfl (by decide) (by decide) (?_ : SdS X 70 [(0, 20), (1, 0), (2, 0)] [20] _)
        refine su_iconst hC dX10_goesOn_70 ⟨by decide, by decide⟩ (?_ : SdS X 71 [(0, 20), (1, 0), (2, 0)] [0, 20] _)
        refine su_putF hC (ci := 10) (j := 9) (C := RX10) (T := TX10) (N := 45) tyX10 tyX10_ok nmX10 rfl rfl (by decide) in_X10 rfl rfl wl_5_173 rfl dX10_goesOn_71 (?_ : SdS X 74 [(0, 20), (1, 0), (2, 0)] [] _)
        refine su_goto (tgt := 281) hC dX10_goesOn_74 rfl (?_ : SdS X 281 [(0, 20), (1, 0), (2, 0)] [] _)
        exact SdS.weak (by decide) (S_281)
    · refine su_aload_n hC 20 dX10_goesOn_22 rfl (by decide) (by decide) (?_ : SdS X 23 [(0, 20)] [20] _)
      refine su_dup hC (by decide) dX10_goesOn_23 (?_ : SdS X 24 [(0, 20)] [20, 20] _)
      refine su_getF hC (ci := 10) (j := 8) (C := RX10) (T := TX10) (N := 45) rfl rfl (by decide) in_X10 wl_5_172 rfl dX10_goesOn_24 (?_ : SdS X 27 [(0, 20)] [0, 20] _)
      refine su_iconst hC dX10_goesOn_27 ⟨by decide, by decide⟩ (?_ : SdS X 28 [(0, 20)] [0, 0, 20] _)
      refine su_iadd hC dX10_goesOn_28 (?_ : SdS X 29 [(0, 20)] [0, 20] _)
      refine su_putF hC (ci := 10) (j := 8) (C := RX10) (T := TX10) (N := 45) tyX10 tyX10_ok nmX10 rfl rfl (by decide) in_X10 rfl rfl wl_5_172 rfl dX10_goesOn_29 (?_ : SdS X 32 [(0, 20)] [] _)
      refine su_goto (tgt := 9) hC dX10_goesOn_32 rfl (?_ : SdS X 9 [(0, 20)] [] _)
      exact SdS.weak (by decide) h9
  refine (?_ : SdS X 0 [(0, 20)] [] (E_X10_goesOn Q))
  unfold E_X10_goesOn
  refine su_aload_n hC 20 dX10_goesOn_0 rfl (by decide) (by decide) (?_ : SdS X 1 [(0, 20)] [20] _)
  refine su_getF hC (ci := 10) (j := 9) (C := RX10) (T := TX10) (N := 45) rfl rfl (by decide) in_X10 wl_5_173 rfl dX10_goesOn_1 (?_ : SdS X 4 [(0, 20)] [0] _)
  refine su_iconst hC dX10_goesOn_4 ⟨by decide, by decide⟩ (?_ : SdS X 5 [(0, 20)] [0, 0] _)
  refine su_icmp_ne (tgt := 9) hC dX10_goesOn_5 rfl (?_ : SdS X 9 [(0, 20)] [] _) (?_ : SdS X 8 [(0, 20)] [] _)
  · exact SdS.weak (by decide) (S_9)
  · exact su_return hC hT dX10_goesOn_8
theorem wl_6_189 : Cond.methodLink RX10 132 yX10_goesOn ∈ WALL := tb6 (List.mem_of_getElem? (i := 189) rfl) rfl
theorem wl_6_191 : Cond.instanceMethod yX10_goesOn ∈ WALL := tb6 (List.mem_of_getElem? (i := 191) rfl) rfl
theorem wp_64 : Cond.selects RX10 yX10_goesOn yX10_goesOn ∈ WALL := tbS (List.mem_of_getElem? (i := 64) rfl)
theorem wl_6_192 : Cond.code yX10_goesOn cX10_goesOn 3 none ∈ WALL := tb6 (List.mem_of_getElem? (i := 192) rfl) rfl
theorem wl_5_168 : Cond.fieldLink RX10 170 "NarrowRingsModel" "read" "LNarrowRingsModel$City;" ∈ WALL := tb5 (List.mem_of_getElem? (i := 168) rfl) rfl
theorem wl_6_226 : Cond.methodLink RX10 135 yX10_wrong ∈ WALL := tb6 (List.mem_of_getElem? (i := 226) rfl) rfl
theorem wl_6_228 : Cond.instanceMethod yX10_wrong ∈ WALL := tb6 (List.mem_of_getElem? (i := 228) rfl) rfl
theorem wp_70 : Cond.selects RX10 yX10_wrong yX10_wrong ∈ WALL := tbS (List.mem_of_getElem? (i := 70) rfl)
theorem wl_6_229 : Cond.code yX10_wrong cX10_wrong 2 none ∈ WALL := tb6 (List.mem_of_getElem? (i := 229) rfl) rfl
theorem hd_X10_begins : yX10_begins.cls ≠ "java/lang/invoke/MethodHandle" ∧ yX10_begins.cls ≠ "java/lang/invoke/VarHandle" ∧ (parseMethodDescriptor yX10_begins.desc).map (fun d => d.parameters.length) = some 3 := by decide +kernel
set_option maxRecDepth 100000 in
set_option maxHeartbeats 4000000 in
theorem M_X10_begins (l : Launch) : MtS l yX10_begins (Cond.code yX10_begins cX10_begins 4 none :: WALL) { frames := 2, cells := 0, slots := 0, locals := 43 } [20, 0, 0, 0] none T_X10_begins := by
  refine MtS.mk (B := E_X10_begins) (by decide +kernel) (by decide) (fun _ _ _ hh => hh) ?_
  intro X Q e1 e2 e3 hC hN hT
  subst e1
  have hC : CF X cX10_begins RX10 WALL := hC
  have S_30 : SdS X 30 [(0, 20), (1, 0), (2, 0), (3, 0)] [] (B_X10_begins_30 Q) := by
    unfold B_X10_begins_30
    refine su_aload_n hC 20 dX10_begins_30 rfl (by decide) (by decide) (?_ : SdS X 31 [(0, 20), (1, 0), (2, 0), (3, 0)] [20] _)
    refine su_inv0v (τ := []) (τr := []) (ci := 10) (q := (RX10, TX10, 45)) hC WG (M_X10_goesOn _) rfl rfl rfl rfl  rfl rfl wl_6_189 wl_6_191 wp_64 wl_1_10 wl_6_192 hd_X10_goesOn (by rw [e3]; decide) (by decide) dX10_begins_31 (?_ : SdS X 34 [(0, 20), (1, 0), (2, 0), (3, 0)] [] _)
    exact su_return hC hT dX10_begins_34
  have S_10 : SdS X 10 [(0, 20), (1, 0), (2, 0), (3, 0)] [] (B_X10_begins_10 Q) := by
    unfold B_X10_begins_10
    refine su_iload_n hC dX10_begins_10 rfl (by decide) (?_ : SdS X 11 [(0, 20), (1, 0), (2, 0), (3, 0)] [0] _)
    refine su_if_eq (tgt := 30) hC dX10_begins_11 rfl (?_ : SdS X 30 [(0, 20), (1, 0), (2, 0), (3, 0)] [] _) (?_ : SdS X 14 [(0, 20), (1, 0), (2, 0), (3, 0)] [] _)
    · exact SdS.weak (by decide) (S_30)
    · refine su_aload_n hC 20 dX10_begins_14 rfl (by decide) (by decide) (?_ : SdS X 15 [(0, 20), (1, 0), (2, 0), (3, 0)] [20] _)
      refine su_getR hC (ci := 10) (j := 4) (C := RX10) (T := TX10) (N := 45) rfl rfl (by decide) in_X10 wl_5_168 rfl dX10_begins_15 (?_ : SdS X 18 [(0, 20), (1, 0), (2, 0), (3, 0)] [19] _)
      refine su_getFN hC (ci := 9) (j := 0) (C := RX9) (T := TX9) (N := 28) (host := "NarrowRingsModel") rfl rfl (by decide) in_X9 (by decide) rfl dX10_begins_18 (?_ : SdS X 21 [(0, 20), (1, 0), (2, 0), (3, 0)] [0] _)
      refine su_if_ne (tgt := 30) hC dX10_begins_21 rfl (?_ : SdS X 30 [(0, 20), (1, 0), (2, 0), (3, 0)] [] _) (?_ : SdS X 24 [(0, 20), (1, 0), (2, 0), (3, 0)] [] _)
      · exact SdS.weak (by decide) (S_30)
      · refine su_aload_n hC 20 dX10_begins_24 rfl (by decide) (by decide) (?_ : SdS X 25 [(0, 20), (1, 0), (2, 0), (3, 0)] [20] _)
        refine su_bipush hC dX10_begins_25 (by decide) (?_ : SdS X 27 [(0, 20), (1, 0), (2, 0), (3, 0)] [0, 20] _)
        refine su_inv0v (τ := []) (τr := [0]) (ci := 10) (q := (RX10, TX10, 45)) hC WG (M_X10_wrong _) rfl rfl rfl rfl  rfl rfl wl_6_226 wl_6_228 wp_70 wl_1_10 wl_6_229 hd_X10_wrong (by rw [e3]; decide) (by decide) dX10_begins_27 (?_ : SdS X 30 [(0, 20), (1, 0), (2, 0), (3, 0)] [] _)
        exact SdS.weak (by decide) (S_30)
  refine (?_ : SdS X 0 [(0, 20), (1, 0), (2, 0), (3, 0)] [] (E_X10_begins Q))
  unfold E_X10_begins
  refine su_iload_n hC dX10_begins_0 rfl (by decide) (?_ : SdS X 1 [(0, 20), (1, 0), (2, 0), (3, 0)] [0] _)
  refine su_iload_n hC dX10_begins_1 rfl (by decide) (?_ : SdS X 2 [(0, 20), (1, 0), (2, 0), (3, 0)] [0, 0] _)
  refine su_icmp_ne (tgt := 10) hC dX10_begins_2 rfl (?_ : SdS X 10 [(0, 20), (1, 0), (2, 0), (3, 0)] [] _) (?_ : SdS X 5 [(0, 20), (1, 0), (2, 0), (3, 0)] [] _)
  · exact SdS.weak (by decide) (S_10)
  · refine su_aload_n hC 20 dX10_begins_5 rfl (by decide) (by decide) (?_ : SdS X 6 [(0, 20), (1, 0), (2, 0), (3, 0)] [20] _)
    refine su_iconst hC dX10_begins_6 ⟨by decide, by decide⟩ (?_ : SdS X 7 [(0, 20), (1, 0), (2, 0), (3, 0)] [0, 20] _)
    refine su_inv0v (τ := []) (τr := [0]) (ci := 10) (q := (RX10, TX10, 45)) hC WG (M_X10_wrong _) rfl rfl rfl rfl  rfl rfl wl_6_226 wl_6_228 wp_70 wl_1_10 wl_6_229 hd_X10_wrong (by rw [e3]; decide) (by decide) dX10_begins_7 (?_ : SdS X 10 [(0, 20), (1, 0), (2, 0), (3, 0)] [] _)
    exact SdS.weak (by decide) (S_10)
theorem hd_X10_bestLoads : yX10_bestLoads.cls ≠ "java/lang/invoke/MethodHandle" ∧ yX10_bestLoads.cls ≠ "java/lang/invoke/VarHandle" ∧ (parseMethodDescriptor yX10_bestLoads.desc).map (fun d => d.parameters.length) = some 1 := by decide +kernel
set_option maxRecDepth 100000 in
set_option maxHeartbeats 4000000 in
theorem M_X10_bestLoads (l : Launch) : MtS l yX10_bestLoads (Cond.code yX10_bestLoads cX10_bestLoads 2 (some .int) :: WALL) { frames := 0, cells := 0, slots := 0, locals := 0 } [20, 0] (some 0) T_X10_bestLoads := by
  refine MtS.mk (B := E_X10_bestLoads) (by decide +kernel) (by decide) (fun _ _ _ hh => hh) ?_
  intro X Q e1 e2 e3 hC hN hT
  subst e1
  have hC : CF X cX10_bestLoads RX10 WALL := hC
  have S_28 : SdS X 28 [(0, 20), (1, 0)] [0] (B_X10_bestLoads_28 Q) := by
    unfold B_X10_bestLoads_28
    exact su_ireturn hC hT dX10_bestLoads_28
  refine (?_ : SdS X 0 [(0, 20), (1, 0)] [] (E_X10_bestLoads Q))
  unfold E_X10_bestLoads
  refine su_aload_n hC 20 dX10_bestLoads_0 rfl (by decide) (by decide) (?_ : SdS X 1 [(0, 20), (1, 0)] [20] _)
  refine su_getF hC (ci := 10) (j := 27) (C := RX10) (T := TX10) (N := 45) rfl rfl (by decide) in_X10 wl_5_191 rfl dX10_bestLoads_1 (?_ : SdS X 4 [(0, 20), (1, 0)] [0] _)
  refine su_if_eq (tgt := 27) hC dX10_bestLoads_4 rfl (?_ : SdS X 27 [(0, 20), (1, 0)] [] _) (?_ : SdS X 7 [(0, 20), (1, 0)] [] _)
  · refine su_iconst hC dX10_bestLoads_27 ⟨by decide, by decide⟩ (?_ : SdS X 28 [(0, 20), (1, 0)] [0] _)
    exact SdS.weak (by decide) (S_28)
  · refine su_aload_n hC 20 dX10_bestLoads_7 rfl (by decide) (by decide) (?_ : SdS X 8 [(0, 20), (1, 0)] [20] _)
    refine su_getR hC (ci := 10) (j := 3) (C := RX10) (T := TX10) (N := 45) rfl rfl (by decide) in_X10 wl_5_167 rfl dX10_bestLoads_8 (?_ : SdS X 11 [(0, 20), (1, 0)] [19] _)
    refine su_getRN hC (ci := 9) (j := 19) (C := RX9) (T := TX9) (N := 28) (host := "NarrowRingsModel") rfl rfl (by decide) in_X9 (by decide) rfl dX10_bestLoads_11 (?_ : SdS X 14 [(0, 20), (1, 0)] [100] _)
    refine su_aload_n hC 20 dX10_bestLoads_14 rfl (by decide) (by decide) (?_ : SdS X 15 [(0, 20), (1, 0)] [20, 100] _)
    refine su_getR hC (ci := 10) (j := 3) (C := RX10) (T := TX10) (N := 45) rfl rfl (by decide) in_X10 wl_5_167 rfl dX10_bestLoads_15 (?_ : SdS X 18 [(0, 20), (1, 0)] [19, 100] _)
    refine su_getRN hC (ci := 9) (j := 20) (C := RX9) (T := TX9) (N := 28) (host := "NarrowRingsModel") rfl rfl (by decide) in_X9 (by decide) rfl dX10_bestLoads_18 (?_ : SdS X 21 [(0, 20), (1, 0)] [100, 100] _)
    refine su_iload_n hC dX10_bestLoads_21 rfl (by decide) (?_ : SdS X 22 [(0, 20), (1, 0)] [0, 100, 100] _)
    refine su_iaload hC dX10_bestLoads_22 (?_ : SdS X 23 [(0, 20), (1, 0)] [0, 100] _)
    refine su_iaload hC dX10_bestLoads_23 (?_ : SdS X 24 [(0, 20), (1, 0)] [0] _)
    refine su_goto (tgt := 28) hC dX10_bestLoads_24 rfl (?_ : SdS X 28 [(0, 20), (1, 0)] [0] _)
    exact SdS.weak (by decide) (S_28)
theorem hd_X10_bounded : yX10_bounded.cls ≠ "java/lang/invoke/MethodHandle" ∧ yX10_bounded.cls ≠ "java/lang/invoke/VarHandle" ∧ (parseMethodDescriptor yX10_bounded.desc).map (fun d => d.parameters.length) = some 2 := by decide +kernel
set_option maxRecDepth 100000 in
set_option maxHeartbeats 4000000 in
theorem M_X10_bounded (l : Launch) : MtS l yX10_bounded (Cond.code yX10_bounded cX10_bounded 3 (some .int) :: WALL) { frames := 1, cells := 0, slots := 0, locals := 22 } [20, 0, 0] (some 0) T_X10_bounded := by
  refine MtS.mk (B := E_X10_bounded) (by decide +kernel) (by decide) (fun _ _ _ hh => hh) ?_
  intro X Q e1 e2 e3 hC hN hT
  subst e1
  have hC : CF X cX10_bounded RX10 WALL := hC
  have S_49 : SdS X 49 [(0, 20), (1, 0), (2, 0)] [0] (B_X10_bounded_49 Q) := by
    unfold B_X10_bounded_49
    exact su_ireturn hC hT dX10_bounded_49
  have S_33 : SdS X 33 [(0, 20), (1, 0), (2, 0)] [] (B_X10_bounded_33 Q) := by
    unfold B_X10_bounded_33
    refine su_aload_n hC 20 dX10_bounded_33 rfl (by decide) (by decide) (?_ : SdS X 34 [(0, 20), (1, 0), (2, 0)] [20] _)
    refine su_getF hC (ci := 10) (j := 9) (C := RX10) (T := TX10) (N := 45) rfl rfl (by decide) in_X10 wl_5_173 rfl dX10_bounded_34 (?_ : SdS X 37 [(0, 20), (1, 0), (2, 0)] [0] _)
    refine su_iconst hC dX10_bounded_37 ⟨by decide, by decide⟩ (?_ : SdS X 38 [(0, 20), (1, 0), (2, 0)] [0, 0] _)
    refine su_icmp_ne (tgt := 45) hC dX10_bounded_38 rfl (?_ : SdS X 45 [(0, 20), (1, 0), (2, 0)] [] _) (?_ : SdS X 41 [(0, 20), (1, 0), (2, 0)] [] _)
    · refine su_aload_n hC 20 dX10_bounded_45 rfl (by decide) (by decide) (?_ : SdS X 46 [(0, 20), (1, 0), (2, 0)] [20] _)
      refine su_getF hC (ci := 10) (j := 12) (C := RX10) (T := TX10) (N := 45) rfl rfl (by decide) in_X10 wl_5_176 rfl dX10_bounded_46 (?_ : SdS X 49 [(0, 20), (1, 0), (2, 0)] [0] _)
      exact SdS.weak (by decide) (S_49)
    · refine su_iload_n hC dX10_bounded_41 rfl (by decide) (?_ : SdS X 42 [(0, 20), (1, 0), (2, 0)] [0] _)
      refine su_goto (tgt := 49) hC dX10_bounded_42 rfl (?_ : SdS X 49 [(0, 20), (1, 0), (2, 0)] [0] _)
      exact SdS.weak (by decide) (S_49)
  refine (?_ : SdS X 0 [(0, 20), (1, 0), (2, 0)] [] (E_X10_bounded Q))
  unfold E_X10_bounded
  refine su_aload_n hC 20 dX10_bounded_0 rfl (by decide) (by decide) (?_ : SdS X 1 [(0, 20), (1, 0), (2, 0)] [20] _)
  refine su_getF hC (ci := 10) (j := 9) (C := RX10) (T := TX10) (N := 45) rfl rfl (by decide) in_X10 wl_5_173 rfl dX10_bounded_1 (?_ : SdS X 4 [(0, 20), (1, 0), (2, 0)] [0] _)
  refine su_iconst hC dX10_bounded_4 ⟨by decide, by decide⟩ (?_ : SdS X 5 [(0, 20), (1, 0), (2, 0)] [0, 0] _)
  refine su_icmp_eq (tgt := 16) hC dX10_bounded_5 rfl (?_ : SdS X 16 [(0, 20), (1, 0), (2, 0)] [] _) (?_ : SdS X 8 [(0, 20), (1, 0), (2, 0)] [] _)
  · refine su_aload_n hC 20 dX10_bounded_16 rfl (by decide) (by decide) (?_ : SdS X 17 [(0, 20), (1, 0), (2, 0)] [20] _)
    refine su_getF hC (ci := 10) (j := 12) (C := RX10) (T := TX10) (N := 45) rfl rfl (by decide) in_X10 wl_5_176 rfl dX10_bounded_17 (?_ : SdS X 20 [(0, 20), (1, 0), (2, 0)] [0] _)
    refine su_iload_n hC dX10_bounded_20 rfl (by decide) (?_ : SdS X 21 [(0, 20), (1, 0), (2, 0)] [0, 0] _)
    refine su_iload_n hC dX10_bounded_21 rfl (by decide) (?_ : SdS X 22 [(0, 20), (1, 0), (2, 0)] [0, 0, 0] _)
    refine su_invs (τ := []) (τs := [0, 0, 0]) hC false "" WG (M_X10_in _) rfl rfl rfl rfl wl_6_238 wl_6_239 wl_1_10 wl_7_0 hd_X10_in (by rw [e3]; decide) (by decide) dX10_bounded_22 (?_ : SdS X 25 [(0, 20), (1, 0), (2, 0)] [0] _)
    refine su_if_ne (tgt := 33) hC dX10_bounded_25 rfl (?_ : SdS X 33 [(0, 20), (1, 0), (2, 0)] [] _) (?_ : SdS X 28 [(0, 20), (1, 0), (2, 0)] [] _)
    · exact SdS.weak (by decide) (S_33)
    · refine su_aload_n hC 20 dX10_bounded_28 rfl (by decide) (by decide) (?_ : SdS X 29 [(0, 20), (1, 0), (2, 0)] [20] _)
      refine su_iconst hC dX10_bounded_29 ⟨by decide, by decide⟩ (?_ : SdS X 30 [(0, 20), (1, 0), (2, 0)] [0, 20] _)
      refine su_inv0v (τ := []) (τr := [0]) (ci := 10) (q := (RX10, TX10, 45)) hC WG (M_X10_wrong _) rfl rfl rfl rfl  rfl rfl wl_6_226 wl_6_228 wp_70 wl_1_10 wl_6_229 hd_X10_wrong (by rw [e3]; decide) (by decide) dX10_bounded_30 (?_ : SdS X 33 [(0, 20), (1, 0), (2, 0)] [] _)
      exact SdS.weak (by decide) (S_33)
  · refine su_aload_n hC 20 dX10_bounded_8 rfl (by decide) (by decide) (?_ : SdS X 9 [(0, 20), (1, 0), (2, 0)] [20] _)
    refine su_iconst hC dX10_bounded_9 ⟨by decide, by decide⟩ (?_ : SdS X 10 [(0, 20), (1, 0), (2, 0)] [0, 20] _)
    refine su_inv0v (τ := []) (τr := [0]) (ci := 10) (q := (RX10, TX10, 45)) hC WG (M_X10_wrong _) rfl rfl rfl rfl  rfl rfl wl_6_226 wl_6_228 wp_70 wl_1_10 wl_6_229 hd_X10_wrong (by rw [e3]; decide) (by decide) dX10_bounded_10 (?_ : SdS X 13 [(0, 20), (1, 0), (2, 0)] [] _)
    refine su_goto (tgt := 33) hC dX10_bounded_13 rfl (?_ : SdS X 33 [(0, 20), (1, 0), (2, 0)] [] _)
    exact SdS.weak (by decide) (S_33)
theorem hd_X10_isSize : yX10_isSize.cls ≠ "java/lang/invoke/MethodHandle" ∧ yX10_isSize.cls ≠ "java/lang/invoke/VarHandle" ∧ (parseMethodDescriptor yX10_isSize.desc).map (fun d => d.parameters.length) = some 1 := by decide +kernel
set_option maxRecDepth 100000 in
set_option maxHeartbeats 4000000 in
theorem M_X10_isSize (l : Launch) : MtS l yX10_isSize (Cond.code yX10_isSize cX10_isSize 1 (some .boolean) :: WALL) { frames := 1, cells := 0, slots := 0, locals := 22 } [0] (some 0) T_X10_isSize := by
  refine MtS.mk (B := E_X10_isSize) (by decide +kernel) (by decide) (fun _ _ _ hh => hh) ?_
  intro X Q e1 e2 e3 hC hN hT
  subst e1
  have hC : CF X cX10_isSize RX10 WALL := hC
  refine (?_ : SdS X 0 [(0, 0)] [] (E_X10_isSize Q))
  unfold E_X10_isSize
  refine su_iload_n hC dX10_isSize_0 rfl (by decide) (?_ : SdS X 1 [(0, 0)] [0] _)
  refine su_iconst hC dX10_isSize_1 ⟨by decide, by decide⟩ (?_ : SdS X 2 [(0, 0)] [0, 0] _)
  refine su_bipush hC dX10_isSize_2 (by decide) (?_ : SdS X 4 [(0, 0)] [0, 0, 0] _)
  refine su_invs (τ := []) (τs := [0, 0, 0]) hC false "" WG (M_X10_in _) rfl rfl rfl rfl wl_6_238 wl_6_239 wl_1_10 wl_7_0 hd_X10_in (by rw [e3]; decide) (by decide) dX10_isSize_4 (?_ : SdS X 7 [(0, 0)] [0] _)
  exact su_zreturn hC hT dX10_isSize_7
theorem hd_X10_savesBy : yX10_savesBy.cls ≠ "java/lang/invoke/MethodHandle" ∧ yX10_savesBy.cls ≠ "java/lang/invoke/VarHandle" ∧ (parseMethodDescriptor yX10_savesBy.desc).map (fun d => d.parameters.length) = some 3 := by decide +kernel
set_option maxRecDepth 100000 in
set_option maxHeartbeats 4000000 in
theorem M_X10_savesBy (l : Launch) : MtS l yX10_savesBy (Cond.code yX10_savesBy cX10_savesBy 9 (some .int) :: WALL) { frames := 8, cells := 0, slots := 0, locals := 194 } [20, 0, 0, 0] (some 0) T_X10_savesBy := by
  refine MtS.mk (B := E_X10_savesBy) (by decide +kernel) (by decide) (fun _ _ _ hh => hh) ?_
  intro X Q e1 e2 e3 hC hN hT
  subst e1
  have hC : CF X cX10_savesBy RX10 WALL := hC
  have S_75 : SdS X 75 [(0, 20), (1, 0), (2, 0), (3, 0), (4, 0), (5, 0), (6, 0), (7, 0)] [0, 0, 100] (B_X10_savesBy_75 Q) := by
    unfold B_X10_savesBy_75
    refine su_iastore hC dX10_savesBy_75 (?_ : SdS X 76 [(0, 20), (1, 0), (2, 0), (3, 0), (4, 0), (5, 0), (6, 0), (7, 0)] [] _)
    refine su_iload hC dX10_savesBy_76 (by decide) (?_ : SdS X 78 [(0, 20), (1, 0), (2, 0), (3, 0), (4, 0), (5, 0), (6, 0), (7, 0)] [0] _)
    refine su_aload_n hC 20 dX10_savesBy_78 rfl (by decide) (by decide) (?_ : SdS X 79 [(0, 20), (1, 0), (2, 0), (3, 0), (4, 0), (5, 0), (6, 0), (7, 0)] [20, 0] _)
    refine su_inv0 (τ := [0]) (τr := []) (ci := 10) (q := (RX10, TX10, 45)) hC WG (M_X10_allNow _) rfl rfl rfl rfl  rfl rfl wl_8_19 wl_8_21 wp_113 wl_1_10 wl_8_22 hd_X10_allNow (by rw [e3]; decide) (by decide) dX10_savesBy_79 (?_ : SdS X 82 [(0, 20), (1, 0), (2, 0), (3, 0), (4, 0), (5, 0), (6, 0), (7, 0)] [0, 0] _)
    refine su_isub hC dX10_savesBy_82 (?_ : SdS X 83 [(0, 20), (1, 0), (2, 0), (3, 0), (4, 0), (5, 0), (6, 0), (7, 0)] [0] _)
    refine su_istore (Γ' := [(0, 20), (1, 0), (2, 0), (3, 0), (4, 0), (5, 0), (6, 0), (7, 0), (8, 0)]) hC dX10_savesBy_83 (by rw [e2]; decide) (by decide) (?_ : SdS X 85 [(0, 20), (1, 0), (2, 0), (3, 0), (4, 0), (5, 0), (6, 0), (7, 0), (8, 0)] [] _)
    refine su_aload_n hC 20 dX10_savesBy_85 rfl (by decide) (by decide) (?_ : SdS X 86 [(0, 20), (1, 0), (2, 0), (3, 0), (4, 0), (5, 0), (6, 0), (7, 0), (8, 0)] [20] _)
    refine su_getR hC (ci := 10) (j := 16) (C := RX10) (T := TX10) (N := 45) rfl rfl (by decide) in_X10 wl_5_180 rfl dX10_savesBy_86 (?_ : SdS X 89 [(0, 20), (1, 0), (2, 0), (3, 0), (4, 0), (5, 0), (6, 0), (7, 0), (8, 0)] [100] _)
    refine su_iload hC dX10_savesBy_89 (by decide) (?_ : SdS X 91 [(0, 20), (1, 0), (2, 0), (3, 0), (4, 0), (5, 0), (6, 0), (7, 0), (8, 0)] [0, 100] _)
    refine su_iconst hC dX10_savesBy_91 ⟨by decide, by decide⟩ (?_ : SdS X 92 [(0, 20), (1, 0), (2, 0), (3, 0), (4, 0), (5, 0), (6, 0), (7, 0), (8, 0)] [0, 0, 100] _)
    refine su_iadd hC dX10_savesBy_92 (?_ : SdS X 93 [(0, 20), (1, 0), (2, 0), (3, 0), (4, 0), (5, 0), (6, 0), (7, 0), (8, 0)] [0, 100] _)
    refine su_iload hC dX10_savesBy_93 (by decide) (?_ : SdS X 95 [(0, 20), (1, 0), (2, 0), (3, 0), (4, 0), (5, 0), (6, 0), (7, 0), (8, 0)] [0, 0, 100] _)
    refine su_iastore hC dX10_savesBy_95 (?_ : SdS X 96 [(0, 20), (1, 0), (2, 0), (3, 0), (4, 0), (5, 0), (6, 0), (7, 0), (8, 0)] [] _)
    refine su_aload_n hC 20 dX10_savesBy_96 rfl (by decide) (by decide) (?_ : SdS X 97 [(0, 20), (1, 0), (2, 0), (3, 0), (4, 0), (5, 0), (6, 0), (7, 0), (8, 0)] [20] _)
    refine su_getR hC (ci := 10) (j := 16) (C := RX10) (T := TX10) (N := 45) rfl rfl (by decide) in_X10 wl_5_180 rfl dX10_savesBy_97 (?_ : SdS X 100 [(0, 20), (1, 0), (2, 0), (3, 0), (4, 0), (5, 0), (6, 0), (7, 0), (8, 0)] [100] _)
    refine su_iload hC dX10_savesBy_100 (by decide) (?_ : SdS X 102 [(0, 20), (1, 0), (2, 0), (3, 0), (4, 0), (5, 0), (6, 0), (7, 0), (8, 0)] [0, 100] _)
    refine su_iconst hC dX10_savesBy_102 ⟨by decide, by decide⟩ (?_ : SdS X 103 [(0, 20), (1, 0), (2, 0), (3, 0), (4, 0), (5, 0), (6, 0), (7, 0), (8, 0)] [0, 0, 100] _)
    refine su_iadd hC dX10_savesBy_103 (?_ : SdS X 104 [(0, 20), (1, 0), (2, 0), (3, 0), (4, 0), (5, 0), (6, 0), (7, 0), (8, 0)] [0, 100] _)
    refine su_iload hC dX10_savesBy_104 (by decide) (?_ : SdS X 106 [(0, 20), (1, 0), (2, 0), (3, 0), (4, 0), (5, 0), (6, 0), (7, 0), (8, 0)] [0, 0, 100] _)
    refine su_iastore hC dX10_savesBy_106 (?_ : SdS X 107 [(0, 20), (1, 0), (2, 0), (3, 0), (4, 0), (5, 0), (6, 0), (7, 0), (8, 0)] [] _)
    refine su_iload hC dX10_savesBy_107 (by decide) (?_ : SdS X 109 [(0, 20), (1, 0), (2, 0), (3, 0), (4, 0), (5, 0), (6, 0), (7, 0), (8, 0)] [0] _)
    exact su_ireturn hC hT dX10_savesBy_109
  have S_54 : SdS X 54 [(0, 20), (1, 0), (2, 0), (3, 0), (4, 0), (5, 0), (6, 0), (7, 0)] [0, 0, 100] (B_X10_savesBy_54 Q) := by
    unfold B_X10_savesBy_54
    refine su_iastore hC dX10_savesBy_54 (?_ : SdS X 55 [(0, 20), (1, 0), (2, 0), (3, 0), (4, 0), (5, 0), (6, 0), (7, 0)] [] _)
    refine su_aload_n hC 20 dX10_savesBy_55 rfl (by decide) (by decide) (?_ : SdS X 56 [(0, 20), (1, 0), (2, 0), (3, 0), (4, 0), (5, 0), (6, 0), (7, 0)] [20] _)
    refine su_getR hC (ci := 10) (j := 16) (C := RX10) (T := TX10) (N := 45) rfl rfl (by decide) in_X10 wl_5_180 rfl dX10_savesBy_56 (?_ : SdS X 59 [(0, 20), (1, 0), (2, 0), (3, 0), (4, 0), (5, 0), (6, 0), (7, 0)] [100] _)
    refine su_iload hC dX10_savesBy_59 (by decide) (?_ : SdS X 61 [(0, 20), (1, 0), (2, 0), (3, 0), (4, 0), (5, 0), (6, 0), (7, 0)] [0, 100] _)
    refine su_iconst hC dX10_savesBy_61 ⟨by decide, by decide⟩ (?_ : SdS X 62 [(0, 20), (1, 0), (2, 0), (3, 0), (4, 0), (5, 0), (6, 0), (7, 0)] [0, 0, 100] _)
    refine su_iadd hC dX10_savesBy_62 (?_ : SdS X 63 [(0, 20), (1, 0), (2, 0), (3, 0), (4, 0), (5, 0), (6, 0), (7, 0)] [0, 100] _)
    refine su_iload_n hC dX10_savesBy_63 rfl (by decide) (?_ : SdS X 64 [(0, 20), (1, 0), (2, 0), (3, 0), (4, 0), (5, 0), (6, 0), (7, 0)] [0, 0, 100] _)
    refine su_iload hC dX10_savesBy_64 (by decide) (?_ : SdS X 66 [(0, 20), (1, 0), (2, 0), (3, 0), (4, 0), (5, 0), (6, 0), (7, 0)] [0, 0, 0, 100] _)
    refine su_icmp_le (tgt := 73) hC dX10_savesBy_66 rfl (?_ : SdS X 73 [(0, 20), (1, 0), (2, 0), (3, 0), (4, 0), (5, 0), (6, 0), (7, 0)] [0, 100] _) (?_ : SdS X 69 [(0, 20), (1, 0), (2, 0), (3, 0), (4, 0), (5, 0), (6, 0), (7, 0)] [0, 100] _)
    · refine su_iload hC dX10_savesBy_73 (by decide) (?_ : SdS X 75 [(0, 20), (1, 0), (2, 0), (3, 0), (4, 0), (5, 0), (6, 0), (7, 0)] [0, 0, 100] _)
      exact SdS.weak (by decide) (S_75)
    · refine su_iload_n hC dX10_savesBy_69 rfl (by decide) (?_ : SdS X 70 [(0, 20), (1, 0), (2, 0), (3, 0), (4, 0), (5, 0), (6, 0), (7, 0)] [0, 0, 100] _)
      refine su_goto (tgt := 75) hC dX10_savesBy_70 rfl (?_ : SdS X 75 [(0, 20), (1, 0), (2, 0), (3, 0), (4, 0), (5, 0), (6, 0), (7, 0)] [0, 0, 100] _)
      exact SdS.weak (by decide) (S_75)
  refine (?_ : SdS X 0 [(0, 20), (1, 0), (2, 0), (3, 0)] [] (E_X10_savesBy Q))
  unfold E_X10_savesBy
  refine su_bipush hC dX10_savesBy_0 (by decide) (?_ : SdS X 2 [(0, 20), (1, 0), (2, 0), (3, 0)] [0] _)
  refine su_iload_n hC dX10_savesBy_2 rfl (by decide) (?_ : SdS X 3 [(0, 20), (1, 0), (2, 0), (3, 0)] [0, 0] _)
  refine su_imul hC dX10_savesBy_3 (?_ : SdS X 4 [(0, 20), (1, 0), (2, 0), (3, 0)] [0] _)
  refine su_istore (Γ' := [(0, 20), (1, 0), (2, 0), (3, 0), (4, 0)]) hC dX10_savesBy_4 (by rw [e2]; decide) (by decide) (?_ : SdS X 6 [(0, 20), (1, 0), (2, 0), (3, 0), (4, 0)] [] _)
  refine su_aload_n hC 20 dX10_savesBy_6 rfl (by decide) (by decide) (?_ : SdS X 7 [(0, 20), (1, 0), (2, 0), (3, 0), (4, 0)] [20] _)
  refine su_getR hC (ci := 10) (j := 16) (C := RX10) (T := TX10) (N := 45) rfl rfl (by decide) in_X10 wl_5_180 rfl dX10_savesBy_7 (?_ : SdS X 10 [(0, 20), (1, 0), (2, 0), (3, 0), (4, 0)] [100] _)
  refine su_iload hC dX10_savesBy_10 (by decide) (?_ : SdS X 12 [(0, 20), (1, 0), (2, 0), (3, 0), (4, 0)] [0, 100] _)
  refine su_iconst hC dX10_savesBy_12 ⟨by decide, by decide⟩ (?_ : SdS X 13 [(0, 20), (1, 0), (2, 0), (3, 0), (4, 0)] [0, 0, 100] _)
  refine su_iadd hC dX10_savesBy_13 (?_ : SdS X 14 [(0, 20), (1, 0), (2, 0), (3, 0), (4, 0)] [0, 100] _)
  refine su_iaload hC dX10_savesBy_14 (?_ : SdS X 15 [(0, 20), (1, 0), (2, 0), (3, 0), (4, 0)] [0] _)
  refine su_istore (Γ' := [(0, 20), (1, 0), (2, 0), (3, 0), (4, 0), (5, 0)]) hC dX10_savesBy_15 (by rw [e2]; decide) (by decide) (?_ : SdS X 17 [(0, 20), (1, 0), (2, 0), (3, 0), (4, 0), (5, 0)] [] _)
  refine su_aload_n hC 20 dX10_savesBy_17 rfl (by decide) (by decide) (?_ : SdS X 18 [(0, 20), (1, 0), (2, 0), (3, 0), (4, 0), (5, 0)] [20] _)
  refine su_getR hC (ci := 10) (j := 16) (C := RX10) (T := TX10) (N := 45) rfl rfl (by decide) in_X10 wl_5_180 rfl dX10_savesBy_18 (?_ : SdS X 21 [(0, 20), (1, 0), (2, 0), (3, 0), (4, 0), (5, 0)] [100] _)
  refine su_iload hC dX10_savesBy_21 (by decide) (?_ : SdS X 23 [(0, 20), (1, 0), (2, 0), (3, 0), (4, 0), (5, 0)] [0, 100] _)
  refine su_iconst hC dX10_savesBy_23 ⟨by decide, by decide⟩ (?_ : SdS X 24 [(0, 20), (1, 0), (2, 0), (3, 0), (4, 0), (5, 0)] [0, 0, 100] _)
  refine su_iadd hC dX10_savesBy_24 (?_ : SdS X 25 [(0, 20), (1, 0), (2, 0), (3, 0), (4, 0), (5, 0)] [0, 100] _)
  refine su_iaload hC dX10_savesBy_25 (?_ : SdS X 26 [(0, 20), (1, 0), (2, 0), (3, 0), (4, 0), (5, 0)] [0] _)
  refine su_istore (Γ' := [(0, 20), (1, 0), (2, 0), (3, 0), (4, 0), (5, 0), (6, 0)]) hC dX10_savesBy_26 (by rw [e2]; decide) (by decide) (?_ : SdS X 28 [(0, 20), (1, 0), (2, 0), (3, 0), (4, 0), (5, 0), (6, 0)] [] _)
  refine su_aload_n hC 20 dX10_savesBy_28 rfl (by decide) (by decide) (?_ : SdS X 29 [(0, 20), (1, 0), (2, 0), (3, 0), (4, 0), (5, 0), (6, 0)] [20] _)
  refine su_inv0 (τ := []) (τr := []) (ci := 10) (q := (RX10, TX10, 45)) hC WG (M_X10_allNow _) rfl rfl rfl rfl  rfl rfl wl_8_19 wl_8_21 wp_113 wl_1_10 wl_8_22 hd_X10_allNow (by rw [e3]; decide) (by decide) dX10_savesBy_29 (?_ : SdS X 32 [(0, 20), (1, 0), (2, 0), (3, 0), (4, 0), (5, 0), (6, 0)] [0] _)
  refine su_istore (Γ' := [(0, 20), (1, 0), (2, 0), (3, 0), (4, 0), (5, 0), (6, 0), (7, 0)]) hC dX10_savesBy_32 (by rw [e2]; decide) (by decide) (?_ : SdS X 34 [(0, 20), (1, 0), (2, 0), (3, 0), (4, 0), (5, 0), (6, 0), (7, 0)] [] _)
  refine su_aload_n hC 20 dX10_savesBy_34 rfl (by decide) (by decide) (?_ : SdS X 35 [(0, 20), (1, 0), (2, 0), (3, 0), (4, 0), (5, 0), (6, 0), (7, 0)] [20] _)
  refine su_getR hC (ci := 10) (j := 16) (C := RX10) (T := TX10) (N := 45) rfl rfl (by decide) in_X10 wl_5_180 rfl dX10_savesBy_35 (?_ : SdS X 38 [(0, 20), (1, 0), (2, 0), (3, 0), (4, 0), (5, 0), (6, 0), (7, 0)] [100] _)
  refine su_iload hC dX10_savesBy_38 (by decide) (?_ : SdS X 40 [(0, 20), (1, 0), (2, 0), (3, 0), (4, 0), (5, 0), (6, 0), (7, 0)] [0, 100] _)
  refine su_iconst hC dX10_savesBy_40 ⟨by decide, by decide⟩ (?_ : SdS X 41 [(0, 20), (1, 0), (2, 0), (3, 0), (4, 0), (5, 0), (6, 0), (7, 0)] [0, 0, 100] _)
  refine su_iadd hC dX10_savesBy_41 (?_ : SdS X 42 [(0, 20), (1, 0), (2, 0), (3, 0), (4, 0), (5, 0), (6, 0), (7, 0)] [0, 100] _)
  refine su_iload_n hC dX10_savesBy_42 rfl (by decide) (?_ : SdS X 43 [(0, 20), (1, 0), (2, 0), (3, 0), (4, 0), (5, 0), (6, 0), (7, 0)] [0, 0, 100] _)
  refine su_iload hC dX10_savesBy_43 (by decide) (?_ : SdS X 45 [(0, 20), (1, 0), (2, 0), (3, 0), (4, 0), (5, 0), (6, 0), (7, 0)] [0, 0, 0, 100] _)
  refine su_icmp_le (tgt := 52) hC dX10_savesBy_45 rfl (?_ : SdS X 52 [(0, 20), (1, 0), (2, 0), (3, 0), (4, 0), (5, 0), (6, 0), (7, 0)] [0, 100] _) (?_ : SdS X 48 [(0, 20), (1, 0), (2, 0), (3, 0), (4, 0), (5, 0), (6, 0), (7, 0)] [0, 100] _)
  · refine su_iload hC dX10_savesBy_52 (by decide) (?_ : SdS X 54 [(0, 20), (1, 0), (2, 0), (3, 0), (4, 0), (5, 0), (6, 0), (7, 0)] [0, 0, 100] _)
    exact SdS.weak (by decide) (S_54)
  · refine su_iload_n hC dX10_savesBy_48 rfl (by decide) (?_ : SdS X 49 [(0, 20), (1, 0), (2, 0), (3, 0), (4, 0), (5, 0), (6, 0), (7, 0)] [0, 0, 100] _)
    refine su_goto (tgt := 54) hC dX10_savesBy_49 rfl (?_ : SdS X 54 [(0, 20), (1, 0), (2, 0), (3, 0), (4, 0), (5, 0), (6, 0), (7, 0)] [0, 0, 100] _)
    exact SdS.weak (by decide) (S_54)
theorem wl_8_119 : Cond.methodLink RX10 510 yX10_isSize ∈ WALL := tb8 (List.mem_of_getElem? (i := 119) rfl) rfl
theorem wl_8_120 : Cond.static yX10_isSize ∈ WALL := tb8 (List.mem_of_getElem? (i := 120) rfl) rfl
theorem wl_8_121 : Cond.code yX10_isSize cX10_isSize 1 (some .boolean) ∈ WALL := tb8 (List.mem_of_getElem? (i := 121) rfl) rfl
theorem wl_8_122 : Cond.methodLink RX10 513 yX10_savesBy ∈ WALL := tb8 (List.mem_of_getElem? (i := 122) rfl) rfl
theorem wl_8_124 : Cond.instanceMethod yX10_savesBy ∈ WALL := tb8 (List.mem_of_getElem? (i := 124) rfl) rfl
theorem wp_126 : Cond.selects RX10 yX10_savesBy yX10_savesBy ∈ WALL := tbS (List.mem_of_getElem? (i := 126) rfl)
theorem wl_8_125 : Cond.code yX10_savesBy cX10_savesBy 9 (some .int) ∈ WALL := tb8 (List.mem_of_getElem? (i := 125) rfl) rfl
theorem hd_X10_breach : yX10_breach.cls ≠ "java/lang/invoke/MethodHandle" ∧ yX10_breach.cls ≠ "java/lang/invoke/VarHandle" ∧ (parseMethodDescriptor yX10_breach.desc).map (fun d => d.parameters.length) = some 2 := by decide +kernel
set_option maxRecDepth 100000 in
set_option maxHeartbeats 4000000 in
theorem M_X10_breach (l : Launch) : MtS l yX10_breach (Cond.code yX10_breach cX10_breach 5 (some .int) :: WALL) { frames := 9, cells := 0, slots := 0, locals := 222 } [20, 0, 0] (some 0) T_X10_breach := by
  refine MtS.mk (B := E_X10_breach) (by decide +kernel) (by decide) (fun _ _ _ hh => hh) ?_
  intro X Q e1 e2 e3 hC hN hT
  subst e1
  have hC : CF X cX10_breach RX10 WALL := hC
  have S_32 : SdS X 32 [(0, 20), (1, 0), (2, 0)] [] (B_X10_breach_32 Q) := by
    unfold B_X10_breach_32
    refine su_aload_n hC 20 dX10_breach_32 rfl (by decide) (by decide) (?_ : SdS X 33 [(0, 20), (1, 0), (2, 0)] [20] _)
    refine su_iconst hC dX10_breach_33 ⟨by decide, by decide⟩ (?_ : SdS X 34 [(0, 20), (1, 0), (2, 0)] [0, 20] _)
    refine su_inv0 (τ := []) (τr := [0]) (ci := 10) (q := (RX10, TX10, 45)) hC WG (M_X10_refused _) rfl rfl rfl rfl  rfl rfl wl_6_72 wl_6_74 wp_63 wl_1_10 wl_6_75 hd_X10_refused (by rw [e3]; decide) (by decide) dX10_breach_34 (?_ : SdS X 37 [(0, 20), (1, 0), (2, 0)] [0] _)
    exact su_ireturn hC hT dX10_breach_37
  have S_87 : ∀ (k57 : xK), SdS X 57 [(0, 20), (1, 0), (2, 0), (3, 0), (4, 0)] [] k57 → SdS X 87 [(0, 20), (1, 0), (2, 0), (3, 0), (4, 0)] [] (B_X10_breach_87 Q k57) := by
    intro k57 h57
    unfold B_X10_breach_87
    refine su_iinc (Γ' := [(0, 20), (1, 0), (2, 0), (3, 0), (4, 0)]) hC dX10_breach_87 (by decide) (by rw [e2]; decide) (by decide) (?_ : SdS X 90 [(0, 20), (1, 0), (2, 0), (3, 0), (4, 0)] [] _)
    refine su_goto (tgt := 57) hC dX10_breach_90 rfl (?_ : SdS X 57 [(0, 20), (1, 0), (2, 0), (3, 0), (4, 0)] [] _)
    exact SdS.weak (by decide) h57
  have S_57 : SdS X 57 [(0, 20), (1, 0), (2, 0), (3, 0), (4, 0)] [] (L_X10_breach_57 Q) := by
    unfold L_X10_breach_57
    refine SdS.loop (fun k57 h57 => ?_)
    refine su_iload hC dX10_breach_57 (by decide) (?_ : SdS X 59 [(0, 20), (1, 0), (2, 0), (3, 0), (4, 0)] [0] _)
    refine su_aload_n hC 20 dX10_breach_59 rfl (by decide) (by decide) (?_ : SdS X 60 [(0, 20), (1, 0), (2, 0), (3, 0), (4, 0)] [20, 0] _)
    refine su_getF hC (ci := 10) (j := 17) (C := RX10) (T := TX10) (N := 45) rfl rfl (by decide) in_X10 wl_5_181 rfl dX10_breach_60 (?_ : SdS X 63 [(0, 20), (1, 0), (2, 0), (3, 0), (4, 0)] [0, 0] _)
    refine su_icmp_ge (tgt := 93) hC dX10_breach_63 rfl (?_ : SdS X 93 [(0, 20), (1, 0), (2, 0), (3, 0), (4, 0)] [] _) (?_ : SdS X 66 [(0, 20), (1, 0), (2, 0), (3, 0), (4, 0)] [] _)
    · refine su_aload_n hC 20 dX10_breach_93 rfl (by decide) (by decide) (?_ : SdS X 94 [(0, 20), (1, 0), (2, 0), (3, 0), (4, 0)] [20] _)
      refine su_iload_n hC dX10_breach_94 rfl (by decide) (?_ : SdS X 95 [(0, 20), (1, 0), (2, 0), (3, 0), (4, 0)] [0, 20] _)
      refine su_inv0 (τ := []) (τr := [0]) (ci := 10) (q := (RX10, TX10, 45)) hC WG (M_X10_good _) rfl rfl rfl rfl  rfl rfl wl_7_171 wl_7_173 wp_105 wl_1_10 wl_7_174 hd_X10_good (by rw [e3]; decide) (by decide) dX10_breach_95 (?_ : SdS X 98 [(0, 20), (1, 0), (2, 0), (3, 0), (4, 0)] [0] _)
      exact su_ireturn hC hT dX10_breach_98
    · refine su_aload_n hC 20 dX10_breach_66 rfl (by decide) (by decide) (?_ : SdS X 67 [(0, 20), (1, 0), (2, 0), (3, 0), (4, 0)] [20] _)
      refine su_iload hC dX10_breach_67 (by decide) (?_ : SdS X 69 [(0, 20), (1, 0), (2, 0), (3, 0), (4, 0)] [0, 20] _)
      refine su_iload_n hC dX10_breach_69 rfl (by decide) (?_ : SdS X 70 [(0, 20), (1, 0), (2, 0), (3, 0), (4, 0)] [0, 0, 20] _)
      refine su_iload_n hC dX10_breach_70 rfl (by decide) (?_ : SdS X 71 [(0, 20), (1, 0), (2, 0), (3, 0), (4, 0)] [0, 0, 0, 20] _)
      refine su_inv0 (τ := []) (τr := [0, 0, 0]) (ci := 10) (q := (RX10, TX10, 45)) hC WG (M_X10_savesBy _) rfl rfl rfl rfl  rfl rfl wl_8_122 wl_8_124 wp_126 wl_1_10 wl_8_125 hd_X10_savesBy (by rw [e3]; decide) (by decide) dX10_breach_71 (?_ : SdS X 74 [(0, 20), (1, 0), (2, 0), (3, 0), (4, 0)] [0] _)
      refine su_aload_n hC 20 dX10_breach_74 rfl (by decide) (by decide) (?_ : SdS X 75 [(0, 20), (1, 0), (2, 0), (3, 0), (4, 0)] [20, 0] _)
      refine su_iload_n hC dX10_breach_75 rfl (by decide) (?_ : SdS X 76 [(0, 20), (1, 0), (2, 0), (3, 0), (4, 0)] [0, 20, 0] _)
      refine su_iload_n hC dX10_breach_76 rfl (by decide) (?_ : SdS X 77 [(0, 20), (1, 0), (2, 0), (3, 0), (4, 0)] [0, 0, 20, 0] _)
      refine su_iload_n hC dX10_breach_77 rfl (by decide) (?_ : SdS X 78 [(0, 20), (1, 0), (2, 0), (3, 0), (4, 0)] [0, 0, 0, 20, 0] _)
      refine su_inv0 (τ := [0]) (τr := [0, 0, 0]) (ci := 10) (q := (RX10, TX10, 45)) hC WG (M_X10_savesBy _) rfl rfl rfl rfl  rfl rfl wl_8_122 wl_8_124 wp_126 wl_1_10 wl_8_125 hd_X10_savesBy (by rw [e3]; decide) (by decide) dX10_breach_78 (?_ : SdS X 81 [(0, 20), (1, 0), (2, 0), (3, 0), (4, 0)] [0, 0] _)
      refine su_icmp_le (tgt := 87) hC dX10_breach_81 rfl (?_ : SdS X 87 [(0, 20), (1, 0), (2, 0), (3, 0), (4, 0)] [] _) (?_ : SdS X 84 [(0, 20), (1, 0), (2, 0), (3, 0), (4, 0)] [] _)
      · exact SdS.weak (by decide) (S_87 k57 h57)
      · refine su_iload hC dX10_breach_84 (by decide) (?_ : SdS X 86 [(0, 20), (1, 0), (2, 0), (3, 0), (4, 0)] [0] _)
        refine su_istore_n (Γ' := [(0, 20), (1, 0), (2, 0), (3, 0), (4, 0)]) hC dX10_breach_86 rfl (by rw [e2]; decide) (by decide) (?_ : SdS X 87 [(0, 20), (1, 0), (2, 0), (3, 0), (4, 0)] [] _)
        exact SdS.weak (by decide) (S_87 k57 h57)
  refine (?_ : SdS X 0 [(0, 20), (1, 0), (2, 0)] [] (E_X10_breach Q))
  unfold E_X10_breach
  refine su_aload_n hC 20 dX10_breach_0 rfl (by decide) (by decide) (?_ : SdS X 1 [(0, 20), (1, 0), (2, 0)] [20] _)
  refine su_iconst hC dX10_breach_1 ⟨by decide, by decide⟩ (?_ : SdS X 2 [(0, 20), (1, 0), (2, 0)] [0, 20] _)
  refine su_putF hC (ci := 10) (j := 0) (C := RX10) (T := TX10) (N := 45) tyX10 tyX10_ok nmX10 rfl rfl (by decide) in_X10 rfl rfl wl_5_164 rfl dX10_breach_2 (?_ : SdS X 5 [(0, 20), (1, 0), (2, 0)] [] _)
  refine su_aload_n hC 20 dX10_breach_5 rfl (by decide) (by decide) (?_ : SdS X 6 [(0, 20), (1, 0), (2, 0)] [20] _)
  refine su_getR hC (ci := 10) (j := 3) (C := RX10) (T := TX10) (N := 45) rfl rfl (by decide) in_X10 wl_5_167 rfl dX10_breach_6 (?_ : SdS X 9 [(0, 20), (1, 0), (2, 0)] [19] _)
  refine su_ifnonnull (tgt := 18) hC (by decide) dX10_breach_9 rfl (?_ : SdS X 18 [(0, 20), (1, 0), (2, 0)] [] _) (?_ : SdS X 12 [(0, 20), (1, 0), (2, 0)] [] _)
  · refine su_iload_n hC dX10_breach_18 rfl (by decide) (?_ : SdS X 19 [(0, 20), (1, 0), (2, 0)] [0] _)
    refine su_invs (τ := []) (τs := [0]) hC false "" WG (M_X10_isSize _) rfl rfl rfl rfl wl_8_119 wl_8_120 wl_1_10 wl_8_121 hd_X10_isSize (by rw [e3]; decide) (by decide) dX10_breach_19 (?_ : SdS X 22 [(0, 20), (1, 0), (2, 0)] [0] _)
    refine su_if_eq (tgt := 32) hC dX10_breach_22 rfl (?_ : SdS X 32 [(0, 20), (1, 0), (2, 0)] [] _) (?_ : SdS X 25 [(0, 20), (1, 0), (2, 0)] [] _)
    · exact SdS.weak (by decide) (S_32)
    · refine su_iload_n hC dX10_breach_25 rfl (by decide) (?_ : SdS X 26 [(0, 20), (1, 0), (2, 0)] [0] _)
      refine su_invs (τ := []) (τs := [0]) hC false "" WG (M_X10_isSize _) rfl rfl rfl rfl wl_8_119 wl_8_120 wl_1_10 wl_8_121 hd_X10_isSize (by rw [e3]; decide) (by decide) dX10_breach_26 (?_ : SdS X 29 [(0, 20), (1, 0), (2, 0)] [0] _)
      refine su_if_ne (tgt := 38) hC dX10_breach_29 rfl (?_ : SdS X 38 [(0, 20), (1, 0), (2, 0)] [] _) (?_ : SdS X 32 [(0, 20), (1, 0), (2, 0)] [] _)
      · refine su_aload_n hC 20 dX10_breach_38 rfl (by decide) (by decide) (?_ : SdS X 39 [(0, 20), (1, 0), (2, 0)] [20] _)
        refine su_getF hC (ci := 10) (j := 17) (C := RX10) (T := TX10) (N := 45) rfl rfl (by decide) in_X10 wl_5_181 rfl dX10_breach_39 (?_ : SdS X 42 [(0, 20), (1, 0), (2, 0)] [0] _)
        refine su_if_ne (tgt := 52) hC dX10_breach_42 rfl (?_ : SdS X 52 [(0, 20), (1, 0), (2, 0)] [] _) (?_ : SdS X 45 [(0, 20), (1, 0), (2, 0)] [] _)
        · refine su_iconst hC dX10_breach_52 ⟨by decide, by decide⟩ (?_ : SdS X 53 [(0, 20), (1, 0), (2, 0)] [0] _)
          refine su_istore_n (Γ' := [(0, 20), (1, 0), (2, 0), (3, 0)]) hC dX10_breach_53 rfl (by rw [e2]; decide) (by decide) (?_ : SdS X 54 [(0, 20), (1, 0), (2, 0), (3, 0)] [] _)
          refine su_iconst hC dX10_breach_54 ⟨by decide, by decide⟩ (?_ : SdS X 55 [(0, 20), (1, 0), (2, 0), (3, 0)] [0] _)
          refine su_istore (Γ' := [(0, 20), (1, 0), (2, 0), (3, 0), (4, 0)]) hC dX10_breach_55 (by rw [e2]; decide) (by decide) (?_ : SdS X 57 [(0, 20), (1, 0), (2, 0), (3, 0), (4, 0)] [] _)
          exact SdS.weak (by decide) (S_57)
        · refine su_aload_n hC 20 dX10_breach_45 rfl (by decide) (by decide) (?_ : SdS X 46 [(0, 20), (1, 0), (2, 0)] [20] _)
          refine su_bipush hC dX10_breach_46 (by decide) (?_ : SdS X 48 [(0, 20), (1, 0), (2, 0)] [0, 20] _)
          refine su_inv0 (τ := []) (τr := [0]) (ci := 10) (q := (RX10, TX10, 45)) hC WG (M_X10_refused _) rfl rfl rfl rfl  rfl rfl wl_6_72 wl_6_74 wp_63 wl_1_10 wl_6_75 hd_X10_refused (by rw [e3]; decide) (by decide) dX10_breach_48 (?_ : SdS X 51 [(0, 20), (1, 0), (2, 0)] [0] _)
          exact su_ireturn hC hT dX10_breach_51
      · exact SdS.weak (by decide) (S_32)
  · refine su_aload_n hC 20 dX10_breach_12 rfl (by decide) (by decide) (?_ : SdS X 13 [(0, 20), (1, 0), (2, 0)] [20] _)
    refine su_iconst hC dX10_breach_13 ⟨by decide, by decide⟩ (?_ : SdS X 14 [(0, 20), (1, 0), (2, 0)] [0, 20] _)
    refine su_inv0 (τ := []) (τr := [0]) (ci := 10) (q := (RX10, TX10, 45)) hC WG (M_X10_refused _) rfl rfl rfl rfl  rfl rfl wl_6_72 wl_6_74 wp_63 wl_1_10 wl_6_75 hd_X10_refused (by rw [e3]; decide) (by decide) dX10_breach_14 (?_ : SdS X 17 [(0, 20), (1, 0), (2, 0)] [0] _)
    exact su_ireturn hC hT dX10_breach_17
theorem hd_X10_gateNext : yX10_gateNext.cls ≠ "java/lang/invoke/MethodHandle" ∧ yX10_gateNext.cls ≠ "java/lang/invoke/VarHandle" ∧ (parseMethodDescriptor yX10_gateNext.desc).map (fun d => d.parameters.length) = some 1 := by decide +kernel
set_option maxRecDepth 100000 in
set_option maxHeartbeats 4000000 in
theorem M_X10_gateNext (l : Launch) : MtS l yX10_gateNext (Cond.code yX10_gateNext cX10_gateNext 2 (some .int) :: WALL) { frames := 0, cells := 0, slots := 0, locals := 0 } [20, 0] (some 0) T_X10_gateNext := by
  refine MtS.mk (B := E_X10_gateNext) (by decide +kernel) (by decide) (fun _ _ _ hh => hh) ?_
  intro X Q e1 e2 e3 hC hN hT
  subst e1
  have hC : CF X cX10_gateNext RX10 WALL := hC
  refine (?_ : SdS X 0 [(0, 20), (1, 0)] [] (E_X10_gateNext Q))
  unfold E_X10_gateNext
  refine su_aload_n hC 20 dX10_gateNext_0 rfl (by decide) (by decide) (?_ : SdS X 1 [(0, 20), (1, 0)] [20] _)
  refine su_getR hC (ci := 10) (j := 36) (C := RX10) (T := TX10) (N := 45) rfl rfl (by decide) in_X10 wl_5_200 rfl dX10_gateNext_1 (?_ : SdS X 4 [(0, 20), (1, 0)] [100] _)
  refine su_bipush hC dX10_gateNext_4 (by decide) (?_ : SdS X 6 [(0, 20), (1, 0)] [0, 100] _)
  refine su_aload_n hC 20 dX10_gateNext_6 rfl (by decide) (by decide) (?_ : SdS X 7 [(0, 20), (1, 0)] [20, 0, 100] _)
  refine su_getR hC (ci := 10) (j := 34) (C := RX10) (T := TX10) (N := 45) rfl rfl (by decide) in_X10 wl_5_198 rfl dX10_gateNext_7 (?_ : SdS X 10 [(0, 20), (1, 0)] [100, 0, 100] _)
  refine su_iload_n hC dX10_gateNext_10 rfl (by decide) (?_ : SdS X 11 [(0, 20), (1, 0)] [0, 100, 0, 100] _)
  refine su_iaload hC dX10_gateNext_11 (?_ : SdS X 12 [(0, 20), (1, 0)] [0, 0, 100] _)
  refine su_imul hC dX10_gateNext_12 (?_ : SdS X 13 [(0, 20), (1, 0)] [0, 100] _)
  refine su_aload_n hC 20 dX10_gateNext_13 rfl (by decide) (by decide) (?_ : SdS X 14 [(0, 20), (1, 0)] [20, 0, 100] _)
  refine su_getR hC (ci := 10) (j := 32) (C := RX10) (T := TX10) (N := 45) rfl rfl (by decide) in_X10 wl_5_196 rfl dX10_gateNext_14 (?_ : SdS X 17 [(0, 20), (1, 0)] [100, 0, 100] _)
  refine su_bipush hC dX10_gateNext_17 (by decide) (?_ : SdS X 19 [(0, 20), (1, 0)] [0, 100, 0, 100] _)
  refine su_iload_n hC dX10_gateNext_19 rfl (by decide) (?_ : SdS X 20 [(0, 20), (1, 0)] [0, 0, 100, 0, 100] _)
  refine su_imul hC dX10_gateNext_20 (?_ : SdS X 21 [(0, 20), (1, 0)] [0, 100, 0, 100] _)
  refine su_bipush hC dX10_gateNext_21 (by decide) (?_ : SdS X 23 [(0, 20), (1, 0)] [0, 0, 100, 0, 100] _)
  refine su_iadd hC dX10_gateNext_23 (?_ : SdS X 24 [(0, 20), (1, 0)] [0, 100, 0, 100] _)
  refine su_iaload hC dX10_gateNext_24 (?_ : SdS X 25 [(0, 20), (1, 0)] [0, 0, 100] _)
  refine su_iadd hC dX10_gateNext_25 (?_ : SdS X 26 [(0, 20), (1, 0)] [0, 100] _)
  refine su_iaload hC dX10_gateNext_26 (?_ : SdS X 27 [(0, 20), (1, 0)] [0] _)
  exact su_ireturn hC hT dX10_gateNext_27
theorem wl_8_43 : Cond.methodLink RX10 477 yX10_gateNext ∈ WALL := tb8 (List.mem_of_getElem? (i := 43) rfl) rfl
theorem wl_8_45 : Cond.instanceMethod yX10_gateNext ∈ WALL := tb8 (List.mem_of_getElem? (i := 45) rfl) rfl
theorem wp_118 : Cond.selects RX10 yX10_gateNext yX10_gateNext ∈ WALL := tbS (List.mem_of_getElem? (i := 118) rfl)
theorem wl_8_46 : Cond.code yX10_gateNext cX10_gateNext 2 (some .int) ∈ WALL := tb8 (List.mem_of_getElem? (i := 46) rfl) rfl
theorem hd_X10_busyAt : yX10_busyAt.cls ≠ "java/lang/invoke/MethodHandle" ∧ yX10_busyAt.cls ≠ "java/lang/invoke/VarHandle" ∧ (parseMethodDescriptor yX10_busyAt.desc).map (fun d => d.parameters.length) = some 1 := by decide +kernel
set_option maxRecDepth 100000 in
set_option maxHeartbeats 4000000 in
theorem M_X10_busyAt (l : Launch) : MtS l yX10_busyAt (Cond.code yX10_busyAt cX10_busyAt 3 (some .int) :: WALL) { frames := 1, cells := 0, slots := 0, locals := 21 } [20, 0] (some 0) T_X10_busyAt := by
  refine MtS.mk (B := E_X10_busyAt) (by decide +kernel) (by decide) (fun _ _ _ hh => hh) ?_
  intro X Q e1 e2 e3 hC hN hT
  subst e1
  have hC : CF X cX10_busyAt RX10 WALL := hC
  have S_36 : ∀ (k2 : xK), SdS X 2 [(0, 20), (1, 0), (2, 0)] [] k2 → SdS X 36 [(0, 20), (1, 0), (2, 0)] [] (B_X10_busyAt_36 Q k2) := by
    intro k2 h2
    unfold B_X10_busyAt_36
    refine su_iinc (Γ' := [(0, 20), (1, 0), (2, 0)]) hC dX10_busyAt_36 (by decide) (by rw [e2]; decide) (by decide) (?_ : SdS X 39 [(0, 20), (1, 0), (2, 0)] [] _)
    refine su_goto (tgt := 2) hC dX10_busyAt_39 rfl (?_ : SdS X 2 [(0, 20), (1, 0), (2, 0)] [] _)
    exact SdS.weak (by decide) h2
  have S_2 : SdS X 2 [(0, 20), (1, 0), (2, 0)] [] (L_X10_busyAt_2 Q) := by
    unfold L_X10_busyAt_2
    refine SdS.loop (fun k2 h2 => ?_)
    refine su_iload_n hC dX10_busyAt_2 rfl (by decide) (?_ : SdS X 3 [(0, 20), (1, 0), (2, 0)] [0] _)
    refine su_aload_n hC 20 dX10_busyAt_3 rfl (by decide) (by decide) (?_ : SdS X 4 [(0, 20), (1, 0), (2, 0)] [20, 0] _)
    refine su_getF hC (ci := 10) (j := 38) (C := RX10) (T := TX10) (N := 45) rfl rfl (by decide) in_X10 wl_5_202 rfl dX10_busyAt_4 (?_ : SdS X 7 [(0, 20), (1, 0), (2, 0)] [0, 0] _)
    refine su_icmp_ge (tgt := 42) hC dX10_busyAt_7 rfl (?_ : SdS X 42 [(0, 20), (1, 0), (2, 0)] [] _) (?_ : SdS X 10 [(0, 20), (1, 0), (2, 0)] [] _)
    · refine su_bipush hC dX10_busyAt_42 (by decide) (?_ : SdS X 44 [(0, 20), (1, 0), (2, 0)] [0] _)
      exact su_ireturn hC hT dX10_busyAt_44
    · refine su_aload_n hC 20 dX10_busyAt_10 rfl (by decide) (by decide) (?_ : SdS X 11 [(0, 20), (1, 0), (2, 0)] [20] _)
      refine su_getR hC (ci := 10) (j := 32) (C := RX10) (T := TX10) (N := 45) rfl rfl (by decide) in_X10 wl_5_196 rfl dX10_busyAt_11 (?_ : SdS X 14 [(0, 20), (1, 0), (2, 0)] [100] _)
      refine su_bipush hC dX10_busyAt_14 (by decide) (?_ : SdS X 16 [(0, 20), (1, 0), (2, 0)] [0, 100] _)
      refine su_iload_n hC dX10_busyAt_16 rfl (by decide) (?_ : SdS X 17 [(0, 20), (1, 0), (2, 0)] [0, 0, 100] _)
      refine su_imul hC dX10_busyAt_17 (?_ : SdS X 18 [(0, 20), (1, 0), (2, 0)] [0, 100] _)
      refine su_iconst hC dX10_busyAt_18 ⟨by decide, by decide⟩ (?_ : SdS X 19 [(0, 20), (1, 0), (2, 0)] [0, 0, 100] _)
      refine su_iadd hC dX10_busyAt_19 (?_ : SdS X 20 [(0, 20), (1, 0), (2, 0)] [0, 100] _)
      refine su_iaload hC dX10_busyAt_20 (?_ : SdS X 21 [(0, 20), (1, 0), (2, 0)] [0] _)
      refine su_iconst hC dX10_busyAt_21 ⟨by decide, by decide⟩ (?_ : SdS X 22 [(0, 20), (1, 0), (2, 0)] [0, 0] _)
      refine su_icmp_ne (tgt := 36) hC dX10_busyAt_22 rfl (?_ : SdS X 36 [(0, 20), (1, 0), (2, 0)] [] _) (?_ : SdS X 25 [(0, 20), (1, 0), (2, 0)] [] _)
      · exact SdS.weak (by decide) (S_36 k2 h2)
      · refine su_aload_n hC 20 dX10_busyAt_25 rfl (by decide) (by decide) (?_ : SdS X 26 [(0, 20), (1, 0), (2, 0)] [20] _)
        refine su_iload_n hC dX10_busyAt_26 rfl (by decide) (?_ : SdS X 27 [(0, 20), (1, 0), (2, 0)] [0, 20] _)
        refine su_inv0 (τ := []) (τr := [0]) (ci := 10) (q := (RX10, TX10, 45)) hC WG (M_X10_gateNext _) rfl rfl rfl rfl  rfl rfl wl_8_43 wl_8_45 wp_118 wl_1_10 wl_8_46 hd_X10_gateNext (by rw [e3]; decide) (by decide) dX10_busyAt_27 (?_ : SdS X 30 [(0, 20), (1, 0), (2, 0)] [0] _)
        refine su_iload_n hC dX10_busyAt_30 rfl (by decide) (?_ : SdS X 31 [(0, 20), (1, 0), (2, 0)] [0, 0] _)
        refine su_icmp_ne (tgt := 36) hC dX10_busyAt_31 rfl (?_ : SdS X 36 [(0, 20), (1, 0), (2, 0)] [] _) (?_ : SdS X 34 [(0, 20), (1, 0), (2, 0)] [] _)
        · exact SdS.weak (by decide) (S_36 k2 h2)
        · refine su_iload_n hC dX10_busyAt_34 rfl (by decide) (?_ : SdS X 35 [(0, 20), (1, 0), (2, 0)] [0] _)
          exact su_ireturn hC hT dX10_busyAt_35
  refine (?_ : SdS X 0 [(0, 20), (1, 0)] [] (E_X10_busyAt Q))
  unfold E_X10_busyAt
  refine su_iconst hC dX10_busyAt_0 ⟨by decide, by decide⟩ (?_ : SdS X 1 [(0, 20), (1, 0)] [0] _)
  refine su_istore_n (Γ' := [(0, 20), (1, 0), (2, 0)]) hC dX10_busyAt_1 rfl (by rw [e2]; decide) (by decide) (?_ : SdS X 2 [(0, 20), (1, 0), (2, 0)] [] _)
  exact SdS.weak (by decide) (S_2)
theorem wl_8_55 : Cond.methodLink RX10 486 yX10_busyAt ∈ WALL := tb8 (List.mem_of_getElem? (i := 55) rfl) rfl
theorem wl_8_57 : Cond.instanceMethod yX10_busyAt ∈ WALL := tb8 (List.mem_of_getElem? (i := 57) rfl) rfl
theorem wp_121 : Cond.selects RX10 yX10_busyAt yX10_busyAt ∈ WALL := tbS (List.mem_of_getElem? (i := 121) rfl)
theorem wl_8_58 : Cond.code yX10_busyAt cX10_busyAt 3 (some .int) ∈ WALL := tb8 (List.mem_of_getElem? (i := 58) rfl) rfl
theorem hd_X10_busy : yX10_busy.cls ≠ "java/lang/invoke/MethodHandle" ∧ yX10_busy.cls ≠ "java/lang/invoke/VarHandle" ∧ (parseMethodDescriptor yX10_busy.desc).map (fun d => d.parameters.length) = some 1 := by decide +kernel
set_option maxRecDepth 100000 in
set_option maxHeartbeats 4000000 in
theorem M_X10_busy (l : Launch) : MtS l yX10_busy (Cond.code yX10_busy cX10_busy 2 (some .int) :: WALL) { frames := 2, cells := 0, slots := 0, locals := 43 } [20, 0] (some 0) T_X10_busy := by
  refine MtS.mk (B := E_X10_busy) (by decide +kernel) (by decide) (fun _ _ _ hh => hh) ?_
  intro X Q e1 e2 e3 hC hN hT
  subst e1
  have hC : CF X cX10_busy RX10 WALL := hC
  have S_30 : SdS X 30 [(0, 20), (1, 0)] [0] (B_X10_busy_30 Q) := by
    unfold B_X10_busy_30
    exact su_ireturn hC hT dX10_busy_30
  refine (?_ : SdS X 0 [(0, 20), (1, 0)] [] (E_X10_busy Q))
  unfold E_X10_busy
  refine su_aload_n hC 20 dX10_busy_0 rfl (by decide) (by decide) (?_ : SdS X 1 [(0, 20), (1, 0)] [20] _)
  refine su_iconst hC dX10_busy_1 ⟨by decide, by decide⟩ (?_ : SdS X 2 [(0, 20), (1, 0)] [0, 20] _)
  refine su_putF hC (ci := 10) (j := 0) (C := RX10) (T := TX10) (N := 45) tyX10 tyX10_ok nmX10 rfl rfl (by decide) in_X10 rfl rfl wl_5_164 rfl dX10_busy_2 (?_ : SdS X 5 [(0, 20), (1, 0)] [] _)
  refine su_aload_n hC 20 dX10_busy_5 rfl (by decide) (by decide) (?_ : SdS X 6 [(0, 20), (1, 0)] [20] _)
  refine su_iload_n hC dX10_busy_6 rfl (by decide) (?_ : SdS X 7 [(0, 20), (1, 0)] [0, 20] _)
  refine su_inv0 (τ := []) (τr := [0]) (ci := 10) (q := (RX10, TX10, 45)) hC WG (M_X10_isGate _) rfl rfl rfl rfl  rfl rfl wl_7_187 wl_7_189 wp_106 wl_1_10 wl_7_190 hd_X10_isGate (by rw [e3]; decide) (by decide) dX10_busy_7 (?_ : SdS X 10 [(0, 20), (1, 0)] [0] _)
  refine su_if_eq (tgt := 25) hC dX10_busy_10 rfl (?_ : SdS X 25 [(0, 20), (1, 0)] [] _) (?_ : SdS X 13 [(0, 20), (1, 0)] [] _)
  · refine su_aload_n hC 20 dX10_busy_25 rfl (by decide) (by decide) (?_ : SdS X 26 [(0, 20), (1, 0)] [20] _)
    refine su_iconst hC dX10_busy_26 ⟨by decide, by decide⟩ (?_ : SdS X 27 [(0, 20), (1, 0)] [0, 20] _)
    refine su_inv0 (τ := []) (τr := [0]) (ci := 10) (q := (RX10, TX10, 45)) hC WG (M_X10_refused _) rfl rfl rfl rfl  rfl rfl wl_6_72 wl_6_74 wp_63 wl_1_10 wl_6_75 hd_X10_refused (by rw [e3]; decide) (by decide) dX10_busy_27 (?_ : SdS X 30 [(0, 20), (1, 0)] [0] _)
    exact SdS.weak (by decide) (S_30)
  · refine su_aload_n hC 20 dX10_busy_13 rfl (by decide) (by decide) (?_ : SdS X 14 [(0, 20), (1, 0)] [20] _)
    refine su_aload_n hC 20 dX10_busy_14 rfl (by decide) (by decide) (?_ : SdS X 15 [(0, 20), (1, 0)] [20, 20] _)
    refine su_iload_n hC dX10_busy_15 rfl (by decide) (?_ : SdS X 16 [(0, 20), (1, 0)] [0, 20, 20] _)
    refine su_inv0 (τ := [20]) (τr := [0]) (ci := 10) (q := (RX10, TX10, 45)) hC WG (M_X10_busyAt _) rfl rfl rfl rfl  rfl rfl wl_8_55 wl_8_57 wp_121 wl_1_10 wl_8_58 hd_X10_busyAt (by rw [e3]; decide) (by decide) dX10_busy_16 (?_ : SdS X 19 [(0, 20), (1, 0)] [0, 20] _)
    refine su_inv0 (τ := []) (τr := [0]) (ci := 10) (q := (RX10, TX10, 45)) hC WG (M_X10_good _) rfl rfl rfl rfl  rfl rfl wl_7_171 wl_7_173 wp_105 wl_1_10 wl_7_174 hd_X10_good (by rw [e3]; decide) (by decide) dX10_busy_19 (?_ : SdS X 22 [(0, 20), (1, 0)] [0] _)
    refine su_goto (tgt := 30) hC dX10_busy_22 rfl (?_ : SdS X 30 [(0, 20), (1, 0)] [0] _)
    exact SdS.weak (by decide) (S_30)
theorem hd_X10_on : yX10_on.cls ≠ "java/lang/invoke/MethodHandle" ∧ yX10_on.cls ≠ "java/lang/invoke/VarHandle" ∧ (parseMethodDescriptor yX10_on.desc).map (fun d => d.parameters.length) = some 1 := by decide +kernel
set_option maxRecDepth 100000 in
set_option maxHeartbeats 4000000 in
theorem M_X10_on (l : Launch) : MtS l yX10_on (Cond.code yX10_on cX10_on 3 (some .int) :: WALL) { frames := 0, cells := 0, slots := 0, locals := 0 } [20, 0] (some 0) T_X10_on := by
  refine MtS.mk (B := E_X10_on) (by decide +kernel) (by decide) (fun _ _ _ hh => hh) ?_
  intro X Q e1 e2 e3 hC hN hT
  subst e1
  have hC : CF X cX10_on RX10 WALL := hC
  have S_2 : SdS X 2 [(0, 20), (1, 0), (2, 0)] [] (L_X10_on_2 Q) := by
    unfold L_X10_on_2
    refine SdS.loop (fun k2 h2 => ?_)
    refine su_iload_n hC dX10_on_2 rfl (by decide) (?_ : SdS X 3 [(0, 20), (1, 0), (2, 0)] [0] _)
    refine su_aload_n hC 20 dX10_on_3 rfl (by decide) (by decide) (?_ : SdS X 4 [(0, 20), (1, 0), (2, 0)] [20, 0] _)
    refine su_getF hC (ci := 10) (j := 38) (C := RX10) (T := TX10) (N := 45) rfl rfl (by decide) in_X10 wl_5_202 rfl dX10_on_4 (?_ : SdS X 7 [(0, 20), (1, 0), (2, 0)] [0, 0] _)
    refine su_icmp_ge (tgt := 33) hC dX10_on_7 rfl (?_ : SdS X 33 [(0, 20), (1, 0), (2, 0)] [] _) (?_ : SdS X 10 [(0, 20), (1, 0), (2, 0)] [] _)
    · refine su_bipush hC dX10_on_33 (by decide) (?_ : SdS X 35 [(0, 20), (1, 0), (2, 0)] [0] _)
      exact su_ireturn hC hT dX10_on_35
    · refine su_aload_n hC 20 dX10_on_10 rfl (by decide) (by decide) (?_ : SdS X 11 [(0, 20), (1, 0), (2, 0)] [20] _)
      refine su_getR hC (ci := 10) (j := 32) (C := RX10) (T := TX10) (N := 45) rfl rfl (by decide) in_X10 wl_5_196 rfl dX10_on_11 (?_ : SdS X 14 [(0, 20), (1, 0), (2, 0)] [100] _)
      refine su_bipush hC dX10_on_14 (by decide) (?_ : SdS X 16 [(0, 20), (1, 0), (2, 0)] [0, 100] _)
      refine su_iload_n hC dX10_on_16 rfl (by decide) (?_ : SdS X 17 [(0, 20), (1, 0), (2, 0)] [0, 0, 100] _)
      refine su_imul hC dX10_on_17 (?_ : SdS X 18 [(0, 20), (1, 0), (2, 0)] [0, 100] _)
      refine su_iconst hC dX10_on_18 ⟨by decide, by decide⟩ (?_ : SdS X 19 [(0, 20), (1, 0), (2, 0)] [0, 0, 100] _)
      refine su_iadd hC dX10_on_19 (?_ : SdS X 20 [(0, 20), (1, 0), (2, 0)] [0, 100] _)
      refine su_iaload hC dX10_on_20 (?_ : SdS X 21 [(0, 20), (1, 0), (2, 0)] [0] _)
      refine su_iload_n hC dX10_on_21 rfl (by decide) (?_ : SdS X 22 [(0, 20), (1, 0), (2, 0)] [0, 0] _)
      refine su_icmp_ne (tgt := 27) hC dX10_on_22 rfl (?_ : SdS X 27 [(0, 20), (1, 0), (2, 0)] [] _) (?_ : SdS X 25 [(0, 20), (1, 0), (2, 0)] [] _)
      · refine su_iinc (Γ' := [(0, 20), (1, 0), (2, 0)]) hC dX10_on_27 (by decide) (by rw [e2]; decide) (by decide) (?_ : SdS X 30 [(0, 20), (1, 0), (2, 0)] [] _)
        refine su_goto (tgt := 2) hC dX10_on_30 rfl (?_ : SdS X 2 [(0, 20), (1, 0), (2, 0)] [] _)
        exact SdS.weak (by decide) h2
      · refine su_iload_n hC dX10_on_25 rfl (by decide) (?_ : SdS X 26 [(0, 20), (1, 0), (2, 0)] [0] _)
        exact su_ireturn hC hT dX10_on_26
  refine (?_ : SdS X 0 [(0, 20), (1, 0)] [] (E_X10_on Q))
  unfold E_X10_on
  refine su_iconst hC dX10_on_0 ⟨by decide, by decide⟩ (?_ : SdS X 1 [(0, 20), (1, 0)] [0] _)
  refine su_istore_n (Γ' := [(0, 20), (1, 0), (2, 0)]) hC dX10_on_1 rfl (by rw [e2]; decide) (by decide) (?_ : SdS X 2 [(0, 20), (1, 0), (2, 0)] [] _)
  exact SdS.weak (by decide) (S_2)
theorem wl_8_63 : Cond.methodLink RX10 489 yX10_on ∈ WALL := tb8 (List.mem_of_getElem? (i := 63) rfl) rfl
theorem wl_8_65 : Cond.instanceMethod yX10_on ∈ WALL := tb8 (List.mem_of_getElem? (i := 65) rfl) rfl
theorem wp_123 : Cond.selects RX10 yX10_on yX10_on ∈ WALL := tbS (List.mem_of_getElem? (i := 123) rfl)
theorem wl_8_66 : Cond.code yX10_on cX10_on 3 (some .int) ∈ WALL := tb8 (List.mem_of_getElem? (i := 66) rfl) rfl
theorem hd_X10_cart : yX10_cart.cls ≠ "java/lang/invoke/MethodHandle" ∧ yX10_cart.cls ≠ "java/lang/invoke/VarHandle" ∧ (parseMethodDescriptor yX10_cart.desc).map (fun d => d.parameters.length) = some 1 := by decide +kernel
set_option maxRecDepth 100000 in
set_option maxHeartbeats 4000000 in
theorem M_X10_cart (l : Launch) : MtS l yX10_cart (Cond.code yX10_cart cX10_cart 2 (some .int) :: WALL) { frames := 1, cells := 0, slots := 0, locals := 22 } [20, 0] (some 0) T_X10_cart := by
  refine MtS.mk (B := E_X10_cart) (by decide +kernel) (by decide) (fun _ _ _ hh => hh) ?_
  intro X Q e1 e2 e3 hC hN hT
  subst e1
  have hC : CF X cX10_cart RX10 WALL := hC
  have S_44 : SdS X 44 [(0, 20), (1, 0)] [0] (B_X10_cart_44 Q) := by
    unfold B_X10_cart_44
    exact su_ireturn hC hT dX10_cart_44
  have S_39 : SdS X 39 [(0, 20), (1, 0)] [] (B_X10_cart_39 Q) := by
    unfold B_X10_cart_39
    refine su_aload_n hC 20 dX10_cart_39 rfl (by decide) (by decide) (?_ : SdS X 40 [(0, 20), (1, 0)] [20] _)
    refine su_iconst hC dX10_cart_40 ⟨by decide, by decide⟩ (?_ : SdS X 41 [(0, 20), (1, 0)] [0, 20] _)
    refine su_inv0 (τ := []) (τr := [0]) (ci := 10) (q := (RX10, TX10, 45)) hC WG (M_X10_refused _) rfl rfl rfl rfl  rfl rfl wl_6_72 wl_6_74 wp_63 wl_1_10 wl_6_75 hd_X10_refused (by rw [e3]; decide) (by decide) dX10_cart_41 (?_ : SdS X 44 [(0, 20), (1, 0)] [0] _)
    exact SdS.weak (by decide) (S_44)
  refine (?_ : SdS X 0 [(0, 20), (1, 0)] [] (E_X10_cart Q))
  unfold E_X10_cart
  refine su_aload_n hC 20 dX10_cart_0 rfl (by decide) (by decide) (?_ : SdS X 1 [(0, 20), (1, 0)] [20] _)
  refine su_iconst hC dX10_cart_1 ⟨by decide, by decide⟩ (?_ : SdS X 2 [(0, 20), (1, 0)] [0, 20] _)
  refine su_putF hC (ci := 10) (j := 0) (C := RX10) (T := TX10) (N := 45) tyX10 tyX10_ok nmX10 rfl rfl (by decide) in_X10 rfl rfl wl_5_164 rfl dX10_cart_2 (?_ : SdS X 5 [(0, 20), (1, 0)] [] _)
  refine su_aload_n hC 20 dX10_cart_5 rfl (by decide) (by decide) (?_ : SdS X 6 [(0, 20), (1, 0)] [20] _)
  refine su_getR hC (ci := 10) (j := 3) (C := RX10) (T := TX10) (N := 45) rfl rfl (by decide) in_X10 wl_5_167 rfl dX10_cart_6 (?_ : SdS X 9 [(0, 20), (1, 0)] [19] _)
  refine su_ifnull (tgt := 39) hC (by decide) dX10_cart_9 rfl (?_ : SdS X 39 [(0, 20), (1, 0)] [] _) (?_ : SdS X 12 [(0, 20), (1, 0)] [] _)
  · exact SdS.weak (by decide) (S_39)
  · refine su_iload_n hC dX10_cart_12 rfl (by decide) (?_ : SdS X 13 [(0, 20), (1, 0)] [0] _)
    refine su_if_lt (tgt := 39) hC dX10_cart_13 rfl (?_ : SdS X 39 [(0, 20), (1, 0)] [] _) (?_ : SdS X 16 [(0, 20), (1, 0)] [] _)
    · exact SdS.weak (by decide) (S_39)
    · refine su_iload_n hC dX10_cart_16 rfl (by decide) (?_ : SdS X 17 [(0, 20), (1, 0)] [0] _)
      refine su_aload_n hC 20 dX10_cart_17 rfl (by decide) (by decide) (?_ : SdS X 18 [(0, 20), (1, 0)] [20, 0] _)
      refine su_getR hC (ci := 10) (j := 3) (C := RX10) (T := TX10) (N := 45) rfl rfl (by decide) in_X10 wl_5_167 rfl dX10_cart_18 (?_ : SdS X 21 [(0, 20), (1, 0)] [19, 0] _)
      refine su_getFN hC (ci := 9) (j := 2) (C := RX9) (T := TX9) (N := 28) (host := "NarrowRingsModel") rfl rfl (by decide) in_X9 (by decide) rfl dX10_cart_21 (?_ : SdS X 24 [(0, 20), (1, 0)] [0, 0] _)
      refine su_icmp_ge (tgt := 39) hC dX10_cart_24 rfl (?_ : SdS X 39 [(0, 20), (1, 0)] [] _) (?_ : SdS X 27 [(0, 20), (1, 0)] [] _)
      · exact SdS.weak (by decide) (S_39)
      · refine su_aload_n hC 20 dX10_cart_27 rfl (by decide) (by decide) (?_ : SdS X 28 [(0, 20), (1, 0)] [20] _)
        refine su_aload_n hC 20 dX10_cart_28 rfl (by decide) (by decide) (?_ : SdS X 29 [(0, 20), (1, 0)] [20, 20] _)
        refine su_iload_n hC dX10_cart_29 rfl (by decide) (?_ : SdS X 30 [(0, 20), (1, 0)] [0, 20, 20] _)
        refine su_inv0 (τ := [20]) (τr := [0]) (ci := 10) (q := (RX10, TX10, 45)) hC WG (M_X10_on _) rfl rfl rfl rfl  rfl rfl wl_8_63 wl_8_65 wp_123 wl_1_10 wl_8_66 hd_X10_on (by rw [e3]; decide) (by decide) dX10_cart_30 (?_ : SdS X 33 [(0, 20), (1, 0)] [0, 20] _)
        refine su_inv0 (τ := []) (τr := [0]) (ci := 10) (q := (RX10, TX10, 45)) hC WG (M_X10_good _) rfl rfl rfl rfl  rfl rfl wl_7_171 wl_7_173 wp_105 wl_1_10 wl_7_174 hd_X10_good (by rw [e3]; decide) (by decide) dX10_cart_33 (?_ : SdS X 36 [(0, 20), (1, 0)] [0] _)
        refine su_goto (tgt := 44) hC dX10_cart_36 rfl (?_ : SdS X 44 [(0, 20), (1, 0)] [0] _)
        exact SdS.weak (by decide) (S_44)
theorem wl_6_81 : Cond.methodLink RX9 3 Lib.objectInit ∈ WALL := tb6 (List.mem_of_getElem? (i := 81) rfl) rfl
theorem wl_6_88 : Cond.fieldLink RX9 9 "NarrowRingsModel$City" "width" "[I" ∈ WALL := tb6 (List.mem_of_getElem? (i := 88) rfl) rfl
theorem wl_6_90 : Cond.fieldLink RX9 15 "NarrowRingsModel$City" "bread" "[I" ∈ WALL := tb6 (List.mem_of_getElem? (i := 90) rfl) rfl
theorem wl_6_92 : Cond.fieldLink RX9 18 "NarrowRingsModel$City" "mouths" "[I" ∈ WALL := tb6 (List.mem_of_getElem? (i := 92) rfl) rfl
theorem wl_6_188 : Cond.arrayClass .boolean ∈ WALL := tb6 (List.mem_of_getElem? (i := 188) rfl) rfl
theorem wl_6_94 : Cond.fieldLink RX9 21 "NarrowRingsModel$City" "isStore" "[Z" ∈ WALL := tb6 (List.mem_of_getElem? (i := 94) rfl) rfl
theorem wl_6_96 : Cond.fieldLink RX9 25 "NarrowRingsModel$City" "tilts" "[Z" ∈ WALL := tb6 (List.mem_of_getElem? (i := 96) rfl) rfl
theorem wl_6_98 : Cond.fieldLink RX9 28 "NarrowRingsModel$City" "isHoly" "[Z" ∈ WALL := tb6 (List.mem_of_getElem? (i := 98) rfl) rfl
theorem wl_6_100 : Cond.fieldLink RX9 31 "NarrowRingsModel$City" "gateNow" "[I" ∈ WALL := tb6 (List.mem_of_getElem? (i := 100) rfl) rfl
theorem wl_6_102 : Cond.fieldLink RX9 34 "NarrowRingsModel$City" "cartRing" "[I" ∈ WALL := tb6 (List.mem_of_getElem? (i := 102) rfl) rfl
theorem wl_6_104 : Cond.fieldLink RX9 37 "NarrowRingsModel$City" "bears" "[I" ∈ WALL := tb6 (List.mem_of_getElem? (i := 104) rfl) rfl
theorem wl_6_106 : Cond.fieldLink RX9 40 "NarrowRingsModel$City" "length" "[I" ∈ WALL := tb6 (List.mem_of_getElem? (i := 106) rfl) rfl
theorem wl_6_108 : Cond.fieldLink RX9 43 "NarrowRingsModel$City" "wide" "[I" ∈ WALL := tb6 (List.mem_of_getElem? (i := 108) rfl) rfl
theorem wl_6_110 : Cond.fieldLink RX9 46 "NarrowRingsModel$City" "high" "[I" ∈ WALL := tb6 (List.mem_of_getElem? (i := 110) rfl) rfl
theorem wl_6_112 : Cond.fieldLink RX9 49 "NarrowRingsModel$City" "weighs" "[I" ∈ WALL := tb6 (List.mem_of_getElem? (i := 112) rfl) rfl
theorem wl_6_114 : Cond.fieldLink RX9 52 "NarrowRingsModel$City" "parts" "[I" ∈ WALL := tb6 (List.mem_of_getElem? (i := 114) rfl) rfl
theorem wl_6_116 : Cond.fieldLink RX9 55 "NarrowRingsModel$City" "of" "[I" ∈ WALL := tb6 (List.mem_of_getElem? (i := 116) rfl) rfl
theorem wl_6_118 : Cond.fieldLink RX9 58 "NarrowRingsModel$City" "fromRing" "[I" ∈ WALL := tb6 (List.mem_of_getElem? (i := 118) rfl) rfl
theorem wl_6_120 : Cond.fieldLink RX9 61 "NarrowRingsModel$City" "fromPlace" "[I" ∈ WALL := tb6 (List.mem_of_getElem? (i := 120) rfl) rfl
theorem wl_6_122 : Cond.fieldLink RX9 64 "NarrowRingsModel$City" "toRing" "[I" ∈ WALL := tb6 (List.mem_of_getElem? (i := 122) rfl) rfl
theorem wl_6_124 : Cond.fieldLink RX9 67 "NarrowRingsModel$City" "toPlace" "[I" ∈ WALL := tb6 (List.mem_of_getElem? (i := 124) rfl) rfl
theorem wl_6_126 : Cond.fieldLink RX9 70 "NarrowRingsModel$City" "hour" "[I" ∈ WALL := tb6 (List.mem_of_getElem? (i := 126) rfl) rfl
theorem wl_1_199 : Cond.arrayClass .long ∈ WALL := tb1 (List.mem_of_getElem? (i := 199) rfl) rfl
theorem wl_6_128 : Cond.fieldLink RX9 73 "NarrowRingsModel$City" "name" "[J" ∈ WALL := tb6 (List.mem_of_getElem? (i := 128) rfl) rfl
theorem wl_6_129 : Cond.fieldLink RX9 77 "NarrowRingsModel$City" "goodOf" "[I" ∈ WALL := tb6 (List.mem_of_getElem? (i := 129) rfl) rfl
theorem hd_X9_init : yX9_init.cls ≠ "java/lang/invoke/MethodHandle" ∧ yX9_init.cls ≠ "java/lang/invoke/VarHandle" ∧ (parseMethodDescriptor yX9_init.desc).map (fun d => d.parameters.length) = some 0 := by decide +kernel
set_option maxRecDepth 100000 in
set_option maxHeartbeats 4000000 in
theorem M_X9_init (l : Launch) : MtS l yX9_init (Cond.code yX9_init cX9_init 1 none :: WALL) { frames := 1, cells := 22, slots := 291, locals := 20 } [19] none T_X9_init := by
  refine MtS.mk (B := E_X9_init) (by decide +kernel) (by decide) (fun _ _ _ hh => hh) ?_
  intro X Q e1 e2 e3 hC hN hT
  subst e1
  have hC : CF X cX9_init RX9 WALL := hC
  refine (?_ : SdS X 0 [(0, 19)] [] (E_X9_init Q))
  unfold E_X9_init
  refine su_aload_n hC 19 dX9_init_0 rfl (by decide) (by decide) (?_ : SdS X 1 [(0, 19)] [19] _)
  refine su_objInit hC (by decide) wl_6_81 wl_1_29 wl_1_30 (by rw [e3]; decide) (by decide) dX9_init_1 (?_ : SdS X 4 [(0, 19)] [] _)
  refine su_aload_n hC 19 dX9_init_4 rfl (by decide) (by decide) (?_ : SdS X 5 [(0, 19)] [19] _)
  refine su_bipush hC dX9_init_5 (by decide) (?_ : SdS X 7 [(0, 19)] [0, 19] _)
  refine su_newa hC (atype := .int) (e := 0) (List.mem_of_getElem? (i := 0) rfl) (fun C z => by cases z) rfl (by decide) wl_1_76 (by rw [e3]) (by rw [e3]) dX9_init_7 (?_ : SdS X 9 [(0, 19)] [100, 19] _)
  refine su_putRF hC (ci := 9) (j := 6) (C := RX9) (T := TX9) (N := 28) tyX9 tyX9_ok nmX9 rfl rfl (by decide) in_X9 rfl rfl rfl hN wl_6_88 rfl dX9_init_9 (?_ : SdS X 12 [(0, 19)] [] _)
  refine su_aload_n hC 19 dX9_init_12 rfl (by decide) (by decide) (?_ : SdS X 13 [(0, 19)] [19] _)
  refine su_bipush hC dX9_init_13 (by decide) (?_ : SdS X 15 [(0, 19)] [0, 19] _)
  refine su_newa hC (atype := .int) (e := 0) (List.mem_of_getElem? (i := 0) rfl) (fun C z => by cases z) rfl (by decide) wl_1_76 (by rw [e3]) (by rw [e3]) dX9_init_15 (?_ : SdS X 17 [(0, 19)] [100, 19] _)
  refine su_putRF hC (ci := 9) (j := 7) (C := RX9) (T := TX9) (N := 28) tyX9 tyX9_ok nmX9 rfl rfl (by decide) in_X9 rfl rfl rfl hN wl_6_90 rfl dX9_init_17 (?_ : SdS X 20 [(0, 19)] [] _)
  refine su_aload_n hC 19 dX9_init_20 rfl (by decide) (by decide) (?_ : SdS X 21 [(0, 19)] [19] _)
  refine su_bipush hC dX9_init_21 (by decide) (?_ : SdS X 23 [(0, 19)] [0, 19] _)
  refine su_newa hC (atype := .int) (e := 0) (List.mem_of_getElem? (i := 0) rfl) (fun C z => by cases z) rfl (by decide) wl_1_76 (by rw [e3]) (by rw [e3]) dX9_init_23 (?_ : SdS X 25 [(0, 19)] [100, 19] _)
  refine su_putRF hC (ci := 9) (j := 8) (C := RX9) (T := TX9) (N := 28) tyX9 tyX9_ok nmX9 rfl rfl (by decide) in_X9 rfl rfl rfl hN wl_6_92 rfl dX9_init_25 (?_ : SdS X 28 [(0, 19)] [] _)
  refine su_aload_n hC 19 dX9_init_28 rfl (by decide) (by decide) (?_ : SdS X 29 [(0, 19)] [19] _)
  refine su_bipush hC dX9_init_29 (by decide) (?_ : SdS X 31 [(0, 19)] [0, 19] _)
  refine su_newa hC (atype := .boolean) (e := 3) (List.mem_of_getElem? (i := 3) rfl) (fun C z => by cases z) rfl (by decide) wl_6_188 (by rw [e3]) (by rw [e3]) dX9_init_31 (?_ : SdS X 33 [(0, 19)] [103, 19] _)
  refine su_putRF hC (ci := 9) (j := 9) (C := RX9) (T := TX9) (N := 28) tyX9 tyX9_ok nmX9 rfl rfl (by decide) in_X9 rfl rfl rfl hN wl_6_94 rfl dX9_init_33 (?_ : SdS X 36 [(0, 19)] [] _)
  refine su_aload_n hC 19 dX9_init_36 rfl (by decide) (by decide) (?_ : SdS X 37 [(0, 19)] [19] _)
  refine su_bipush hC dX9_init_37 (by decide) (?_ : SdS X 39 [(0, 19)] [0, 19] _)
  refine su_newa hC (atype := .boolean) (e := 3) (List.mem_of_getElem? (i := 3) rfl) (fun C z => by cases z) rfl (by decide) wl_6_188 (by rw [e3]) (by rw [e3]) dX9_init_39 (?_ : SdS X 41 [(0, 19)] [103, 19] _)
  refine su_putRF hC (ci := 9) (j := 10) (C := RX9) (T := TX9) (N := 28) tyX9 tyX9_ok nmX9 rfl rfl (by decide) in_X9 rfl rfl rfl hN wl_6_96 rfl dX9_init_41 (?_ : SdS X 44 [(0, 19)] [] _)
  refine su_aload_n hC 19 dX9_init_44 rfl (by decide) (by decide) (?_ : SdS X 45 [(0, 19)] [19] _)
  refine su_bipush hC dX9_init_45 (by decide) (?_ : SdS X 47 [(0, 19)] [0, 19] _)
  refine su_newa hC (atype := .boolean) (e := 3) (List.mem_of_getElem? (i := 3) rfl) (fun C z => by cases z) rfl (by decide) wl_6_188 (by rw [e3]) (by rw [e3]) dX9_init_47 (?_ : SdS X 49 [(0, 19)] [103, 19] _)
  refine su_putRF hC (ci := 9) (j := 11) (C := RX9) (T := TX9) (N := 28) tyX9 tyX9_ok nmX9 rfl rfl (by decide) in_X9 rfl rfl rfl hN wl_6_98 rfl dX9_init_49 (?_ : SdS X 52 [(0, 19)] [] _)
  refine su_aload_n hC 19 dX9_init_52 rfl (by decide) (by decide) (?_ : SdS X 53 [(0, 19)] [19] _)
  refine su_bipush hC dX9_init_53 (by decide) (?_ : SdS X 55 [(0, 19)] [0, 19] _)
  refine su_newa hC (atype := .int) (e := 0) (List.mem_of_getElem? (i := 0) rfl) (fun C z => by cases z) rfl (by decide) wl_1_76 (by rw [e3]) (by rw [e3]) dX9_init_55 (?_ : SdS X 57 [(0, 19)] [100, 19] _)
  refine su_putRF hC (ci := 9) (j := 12) (C := RX9) (T := TX9) (N := 28) tyX9 tyX9_ok nmX9 rfl rfl (by decide) in_X9 rfl rfl rfl hN wl_6_100 rfl dX9_init_57 (?_ : SdS X 60 [(0, 19)] [] _)
  refine su_aload_n hC 19 dX9_init_60 rfl (by decide) (by decide) (?_ : SdS X 61 [(0, 19)] [19] _)
  refine su_bipush hC dX9_init_61 (by decide) (?_ : SdS X 63 [(0, 19)] [0, 19] _)
  refine su_newa hC (atype := .int) (e := 0) (List.mem_of_getElem? (i := 0) rfl) (fun C z => by cases z) rfl (by decide) wl_1_76 (by rw [e3]) (by rw [e3]) dX9_init_63 (?_ : SdS X 65 [(0, 19)] [100, 19] _)
  refine su_putRF hC (ci := 9) (j := 13) (C := RX9) (T := TX9) (N := 28) tyX9 tyX9_ok nmX9 rfl rfl (by decide) in_X9 rfl rfl rfl hN wl_6_102 rfl dX9_init_65 (?_ : SdS X 68 [(0, 19)] [] _)
  refine su_aload_n hC 19 dX9_init_68 rfl (by decide) (by decide) (?_ : SdS X 69 [(0, 19)] [19] _)
  refine su_bipush hC dX9_init_69 (by decide) (?_ : SdS X 71 [(0, 19)] [0, 19] _)
  refine su_newa hC (atype := .int) (e := 0) (List.mem_of_getElem? (i := 0) rfl) (fun C z => by cases z) rfl (by decide) wl_1_76 (by rw [e3]) (by rw [e3]) dX9_init_71 (?_ : SdS X 73 [(0, 19)] [100, 19] _)
  refine su_putRF hC (ci := 9) (j := 14) (C := RX9) (T := TX9) (N := 28) tyX9 tyX9_ok nmX9 rfl rfl (by decide) in_X9 rfl rfl rfl hN wl_6_104 rfl dX9_init_73 (?_ : SdS X 76 [(0, 19)] [] _)
  refine su_aload_n hC 19 dX9_init_76 rfl (by decide) (by decide) (?_ : SdS X 77 [(0, 19)] [19] _)
  refine su_bipush hC dX9_init_77 (by decide) (?_ : SdS X 79 [(0, 19)] [0, 19] _)
  refine su_newa hC (atype := .int) (e := 0) (List.mem_of_getElem? (i := 0) rfl) (fun C z => by cases z) rfl (by decide) wl_1_76 (by rw [e3]) (by rw [e3]) dX9_init_79 (?_ : SdS X 81 [(0, 19)] [100, 19] _)
  refine su_putRF hC (ci := 9) (j := 15) (C := RX9) (T := TX9) (N := 28) tyX9 tyX9_ok nmX9 rfl rfl (by decide) in_X9 rfl rfl rfl hN wl_6_106 rfl dX9_init_81 (?_ : SdS X 84 [(0, 19)] [] _)
  refine su_aload_n hC 19 dX9_init_84 rfl (by decide) (by decide) (?_ : SdS X 85 [(0, 19)] [19] _)
  refine su_bipush hC dX9_init_85 (by decide) (?_ : SdS X 87 [(0, 19)] [0, 19] _)
  refine su_newa hC (atype := .int) (e := 0) (List.mem_of_getElem? (i := 0) rfl) (fun C z => by cases z) rfl (by decide) wl_1_76 (by rw [e3]) (by rw [e3]) dX9_init_87 (?_ : SdS X 89 [(0, 19)] [100, 19] _)
  refine su_putRF hC (ci := 9) (j := 16) (C := RX9) (T := TX9) (N := 28) tyX9 tyX9_ok nmX9 rfl rfl (by decide) in_X9 rfl rfl rfl hN wl_6_108 rfl dX9_init_89 (?_ : SdS X 92 [(0, 19)] [] _)
  refine su_aload_n hC 19 dX9_init_92 rfl (by decide) (by decide) (?_ : SdS X 93 [(0, 19)] [19] _)
  refine su_bipush hC dX9_init_93 (by decide) (?_ : SdS X 95 [(0, 19)] [0, 19] _)
  refine su_newa hC (atype := .int) (e := 0) (List.mem_of_getElem? (i := 0) rfl) (fun C z => by cases z) rfl (by decide) wl_1_76 (by rw [e3]) (by rw [e3]) dX9_init_95 (?_ : SdS X 97 [(0, 19)] [100, 19] _)
  refine su_putRF hC (ci := 9) (j := 17) (C := RX9) (T := TX9) (N := 28) tyX9 tyX9_ok nmX9 rfl rfl (by decide) in_X9 rfl rfl rfl hN wl_6_110 rfl dX9_init_97 (?_ : SdS X 100 [(0, 19)] [] _)
  refine su_aload_n hC 19 dX9_init_100 rfl (by decide) (by decide) (?_ : SdS X 101 [(0, 19)] [19] _)
  refine su_bipush hC dX9_init_101 (by decide) (?_ : SdS X 103 [(0, 19)] [0, 19] _)
  refine su_newa hC (atype := .int) (e := 0) (List.mem_of_getElem? (i := 0) rfl) (fun C z => by cases z) rfl (by decide) wl_1_76 (by rw [e3]) (by rw [e3]) dX9_init_103 (?_ : SdS X 105 [(0, 19)] [100, 19] _)
  refine su_putRF hC (ci := 9) (j := 18) (C := RX9) (T := TX9) (N := 28) tyX9 tyX9_ok nmX9 rfl rfl (by decide) in_X9 rfl rfl rfl hN wl_6_112 rfl dX9_init_105 (?_ : SdS X 108 [(0, 19)] [] _)
  refine su_aload_n hC 19 dX9_init_108 rfl (by decide) (by decide) (?_ : SdS X 109 [(0, 19)] [19] _)
  refine su_bipush hC dX9_init_109 (by decide) (?_ : SdS X 111 [(0, 19)] [0, 19] _)
  refine su_newa hC (atype := .int) (e := 0) (List.mem_of_getElem? (i := 0) rfl) (fun C z => by cases z) rfl (by decide) wl_1_76 (by rw [e3]) (by rw [e3]) dX9_init_111 (?_ : SdS X 113 [(0, 19)] [100, 19] _)
  refine su_putRF hC (ci := 9) (j := 19) (C := RX9) (T := TX9) (N := 28) tyX9 tyX9_ok nmX9 rfl rfl (by decide) in_X9 rfl rfl rfl hN wl_6_114 rfl dX9_init_113 (?_ : SdS X 116 [(0, 19)] [] _)
  refine su_aload_n hC 19 dX9_init_116 rfl (by decide) (by decide) (?_ : SdS X 117 [(0, 19)] [19] _)
  refine su_bipush hC dX9_init_117 (by decide) (?_ : SdS X 119 [(0, 19)] [0, 19] _)
  refine su_newa hC (atype := .int) (e := 0) (List.mem_of_getElem? (i := 0) rfl) (fun C z => by cases z) rfl (by decide) wl_1_76 (by rw [e3]) (by rw [e3]) dX9_init_119 (?_ : SdS X 121 [(0, 19)] [100, 19] _)
  refine su_putRF hC (ci := 9) (j := 20) (C := RX9) (T := TX9) (N := 28) tyX9 tyX9_ok nmX9 rfl rfl (by decide) in_X9 rfl rfl rfl hN wl_6_116 rfl dX9_init_121 (?_ : SdS X 124 [(0, 19)] [] _)
  refine su_aload_n hC 19 dX9_init_124 rfl (by decide) (by decide) (?_ : SdS X 125 [(0, 19)] [19] _)
  refine su_bipush hC dX9_init_125 (by decide) (?_ : SdS X 127 [(0, 19)] [0, 19] _)
  refine su_newa hC (atype := .int) (e := 0) (List.mem_of_getElem? (i := 0) rfl) (fun C z => by cases z) rfl (by decide) wl_1_76 (by rw [e3]) (by rw [e3]) dX9_init_127 (?_ : SdS X 129 [(0, 19)] [100, 19] _)
  refine su_putRF hC (ci := 9) (j := 21) (C := RX9) (T := TX9) (N := 28) tyX9 tyX9_ok nmX9 rfl rfl (by decide) in_X9 rfl rfl rfl hN wl_6_118 rfl dX9_init_129 (?_ : SdS X 132 [(0, 19)] [] _)
  refine su_aload_n hC 19 dX9_init_132 rfl (by decide) (by decide) (?_ : SdS X 133 [(0, 19)] [19] _)
  refine su_bipush hC dX9_init_133 (by decide) (?_ : SdS X 135 [(0, 19)] [0, 19] _)
  refine su_newa hC (atype := .int) (e := 0) (List.mem_of_getElem? (i := 0) rfl) (fun C z => by cases z) rfl (by decide) wl_1_76 (by rw [e3]) (by rw [e3]) dX9_init_135 (?_ : SdS X 137 [(0, 19)] [100, 19] _)
  refine su_putRF hC (ci := 9) (j := 22) (C := RX9) (T := TX9) (N := 28) tyX9 tyX9_ok nmX9 rfl rfl (by decide) in_X9 rfl rfl rfl hN wl_6_120 rfl dX9_init_137 (?_ : SdS X 140 [(0, 19)] [] _)
  refine su_aload_n hC 19 dX9_init_140 rfl (by decide) (by decide) (?_ : SdS X 141 [(0, 19)] [19] _)
  refine su_bipush hC dX9_init_141 (by decide) (?_ : SdS X 143 [(0, 19)] [0, 19] _)
  refine su_newa hC (atype := .int) (e := 0) (List.mem_of_getElem? (i := 0) rfl) (fun C z => by cases z) rfl (by decide) wl_1_76 (by rw [e3]) (by rw [e3]) dX9_init_143 (?_ : SdS X 145 [(0, 19)] [100, 19] _)
  refine su_putRF hC (ci := 9) (j := 23) (C := RX9) (T := TX9) (N := 28) tyX9 tyX9_ok nmX9 rfl rfl (by decide) in_X9 rfl rfl rfl hN wl_6_122 rfl dX9_init_145 (?_ : SdS X 148 [(0, 19)] [] _)
  refine su_aload_n hC 19 dX9_init_148 rfl (by decide) (by decide) (?_ : SdS X 149 [(0, 19)] [19] _)
  refine su_bipush hC dX9_init_149 (by decide) (?_ : SdS X 151 [(0, 19)] [0, 19] _)
  refine su_newa hC (atype := .int) (e := 0) (List.mem_of_getElem? (i := 0) rfl) (fun C z => by cases z) rfl (by decide) wl_1_76 (by rw [e3]) (by rw [e3]) dX9_init_151 (?_ : SdS X 153 [(0, 19)] [100, 19] _)
  refine su_putRF hC (ci := 9) (j := 24) (C := RX9) (T := TX9) (N := 28) tyX9 tyX9_ok nmX9 rfl rfl (by decide) in_X9 rfl rfl rfl hN wl_6_124 rfl dX9_init_153 (?_ : SdS X 156 [(0, 19)] [] _)
  refine su_aload_n hC 19 dX9_init_156 rfl (by decide) (by decide) (?_ : SdS X 157 [(0, 19)] [19] _)
  refine su_bipush hC dX9_init_157 (by decide) (?_ : SdS X 159 [(0, 19)] [0, 19] _)
  refine su_newa hC (atype := .int) (e := 0) (List.mem_of_getElem? (i := 0) rfl) (fun C z => by cases z) rfl (by decide) wl_1_76 (by rw [e3]) (by rw [e3]) dX9_init_159 (?_ : SdS X 161 [(0, 19)] [100, 19] _)
  refine su_putRF hC (ci := 9) (j := 25) (C := RX9) (T := TX9) (N := 28) tyX9 tyX9_ok nmX9 rfl rfl (by decide) in_X9 rfl rfl rfl hN wl_6_126 rfl dX9_init_161 (?_ : SdS X 164 [(0, 19)] [] _)
  refine su_aload_n hC 19 dX9_init_164 rfl (by decide) (by decide) (?_ : SdS X 165 [(0, 19)] [19] _)
  refine su_bipush hC dX9_init_165 (by decide) (?_ : SdS X 167 [(0, 19)] [0, 19] _)
  refine su_newa hC (atype := .long) (e := 1) (List.mem_of_getElem? (i := 1) rfl) (fun C z => by cases z) rfl (by decide) wl_1_199 (by rw [e3]) (by rw [e3]) dX9_init_167 (?_ : SdS X 169 [(0, 19)] [101, 19] _)
  refine su_putRF hC (ci := 9) (j := 26) (C := RX9) (T := TX9) (N := 28) tyX9 tyX9_ok nmX9 rfl rfl (by decide) in_X9 rfl rfl rfl hN wl_6_128 rfl dX9_init_169 (?_ : SdS X 172 [(0, 19)] [] _)
  refine su_aload_n hC 19 dX9_init_172 rfl (by decide) (by decide) (?_ : SdS X 173 [(0, 19)] [19] _)
  refine su_bipush hC dX9_init_173 (by decide) (?_ : SdS X 175 [(0, 19)] [0, 19] _)
  refine su_newa hC (atype := .int) (e := 0) (List.mem_of_getElem? (i := 0) rfl) (fun C z => by cases z) rfl (by decide) wl_1_76 (by rw [e3]) (by rw [e3]) dX9_init_175 (?_ : SdS X 177 [(0, 19)] [100, 19] _)
  refine su_putRF hC (ci := 9) (j := 27) (C := RX9) (T := TX9) (N := 28) tyX9 tyX9_ok nmX9 rfl rfl (by decide) in_X9 rfl rfl rfl hN wl_6_129 rfl dX9_init_177 (?_ : SdS X 180 [(0, 19)] [] _)
  exact su_return hC hT dX9_init_180
theorem wl_2_213 : Cond.fieldLink RJ0 38 "java/lang/String" "COMPACT_STRINGS" "Z" ∈ WALL := tb2 (List.mem_of_getElem? (i := 213) rfl) rfl
theorem wl_8_214 : Cond.fieldLink RJ0 15 "java/lang/String" "coder" "B" ∈ WALL := tb8 (List.mem_of_getElem? (i := 214) rfl) rfl
theorem hd_J0_coder_7d493 : yJ0_coder_7d493.cls ≠ "java/lang/invoke/MethodHandle" ∧ yJ0_coder_7d493.cls ≠ "java/lang/invoke/VarHandle" ∧ (parseMethodDescriptor yJ0_coder_7d493.desc).map (fun d => d.parameters.length) = some 0 := by decide +kernel
set_option maxRecDepth 100000 in
set_option maxHeartbeats 4000000 in
theorem M_J0_coder_7d493 (l : Launch) : MtS l yJ0_coder_7d493 (Cond.code yJ0_coder_7d493 cJ0_coder_7d493 1 (some .byte) :: WALL) { frames := 0, cells := 0, slots := 0, locals := 0 } [5] (some 0) T_J0_coder_7d493 := by
  refine MtS.mk (B := E_J0_coder_7d493) (by decide +kernel) (by decide) (fun _ _ _ hh => hh) ?_
  intro X Q e1 e2 e3 hC hN hT
  subst e1
  have hC : CF X cJ0_coder_7d493 RJ0 WALL := hC
  have S_14 : SdS X 14 [(0, 5)] [0] (B_J0_coder_7d493_14 Q) := by
    unfold B_J0_coder_7d493_14
    exact su_breturn hC hT dJ0_coder_7d493_14
  refine (?_ : SdS X 0 [(0, 5)] [] (E_J0_coder_7d493 Q))
  unfold E_J0_coder_7d493
  refine su_cstr hC wl_2_213 dJ0_coder_7d493_0 (?_ : SdS X 3 [(0, 5)] [0] _)
  refine su_if_eq (tgt := 13) hC dJ0_coder_7d493_3 rfl (?_ : SdS X 13 [(0, 5)] [] _) (?_ : SdS X 6 [(0, 5)] [] _)
  · refine su_iconst hC dJ0_coder_7d493_13 ⟨by decide, by decide⟩ (?_ : SdS X 14 [(0, 5)] [0] _)
    exact SdS.weak (by decide) (S_14)
  · refine su_aload_n hC 5 dJ0_coder_7d493_6 rfl (by decide) (by decide) (?_ : SdS X 7 [(0, 5)] [5] _)
    refine su_sco hC wl_8_214 dJ0_coder_7d493_7 (?_ : SdS X 10 [(0, 5)] [0] _)
    refine su_goto (tgt := 14) hC dJ0_coder_7d493_10 rfl (?_ : SdS X 14 [(0, 5)] [0] _)
    exact SdS.weak (by decide) (S_14)
theorem wl_8_213 : Cond.fieldLink RJ0 9 "java/lang/String" "value" "[B" ∈ WALL := tb8 (List.mem_of_getElem? (i := 213) rfl) rfl
theorem wl_2_209 : Cond.methodLink RJ0 335 yJ0_coder_7d493 ∈ WALL := tb2 (List.mem_of_getElem? (i := 209) rfl) rfl
theorem wl_2_210 : Cond.instanceMethod yJ0_coder_7d493 ∈ WALL := tb2 (List.mem_of_getElem? (i := 210) rfl) rfl
theorem wl_2_211 : Cond.selects RJ0 yJ0_coder_7d493 yJ0_coder_7d493 ∈ WALL := tb2 (List.mem_of_getElem? (i := 211) rfl) rfl
theorem wl_1_12 : Cond.initialized RJ0 ∈ WALL := tb1 (List.mem_of_getElem? (i := 12) rfl) rfl
theorem wl_2_212 : Cond.code yJ0_coder_7d493 cJ0_coder_7d493 1 (some .byte) ∈ WALL := tb2 (List.mem_of_getElem? (i := 212) rfl) rfl
theorem hd_J0_length_8abf5 : yJ0_length_8abf5.cls ≠ "java/lang/invoke/MethodHandle" ∧ yJ0_length_8abf5.cls ≠ "java/lang/invoke/VarHandle" ∧ (parseMethodDescriptor yJ0_length_8abf5.desc).map (fun d => d.parameters.length) = some 0 := by decide +kernel
set_option maxRecDepth 100000 in
set_option maxHeartbeats 4000000 in
theorem M_J0_length_8abf5 (l : Launch) : MtS l yJ0_length_8abf5 (Cond.code yJ0_length_8abf5 cJ0_length_8abf5 1 (some .int) :: WALL) { frames := 1, cells := 0, slots := 0, locals := 20 } [5] (some 0) T_J0_length_8abf5 := by
  refine MtS.mk (B := E_J0_length_8abf5) (by decide +kernel) (by decide) (fun _ _ _ hh => hh) ?_
  intro X Q e1 e2 e3 hC hN hT
  subst e1
  have hC : CF X cJ0_length_8abf5 RJ0 WALL := hC
  refine (?_ : SdS X 0 [(0, 5)] [] (E_J0_length_8abf5 Q))
  unfold E_J0_length_8abf5
  refine su_aload_n hC 5 dJ0_length_8abf5_0 rfl (by decide) (by decide) (?_ : SdS X 1 [(0, 5)] [5] _)
  refine su_sval hC wl_8_213 dJ0_length_8abf5_1 (?_ : SdS X 4 [(0, 5)] [4] _)
  refine su_tlen hC dJ0_length_8abf5_4 (?_ : SdS X 5 [(0, 5)] [0] _)
  refine su_aload_n hC 5 dJ0_length_8abf5_5 rfl (by decide) (by decide) (?_ : SdS X 6 [(0, 5)] [5, 0] _)
  refine su_invT (τ := [0]) (τr := []) hC WG (M_J0_coder_7d493 _) rfl rfl rfl rfl rfl wl_2_209 wl_2_210 wl_2_211 wl_1_12 wl_2_212 hd_J0_coder_7d493 (by rw [e3]; decide) (by decide) dJ0_length_8abf5_6 (?_ : SdS X 9 [(0, 5)] [0, 0] _)
  refine su_ishr hC dJ0_length_8abf5_9 (?_ : SdS X 10 [(0, 5)] [0] _)
  exact su_ireturn hC hT dJ0_length_8abf5_10
theorem hd_J0_isLatin1_aae02 : yJ0_isLatin1_aae02.cls ≠ "java/lang/invoke/MethodHandle" ∧ yJ0_isLatin1_aae02.cls ≠ "java/lang/invoke/VarHandle" ∧ (parseMethodDescriptor yJ0_isLatin1_aae02.desc).map (fun d => d.parameters.length) = some 0 := by decide +kernel
set_option maxRecDepth 100000 in
set_option maxHeartbeats 4000000 in
theorem M_J0_isLatin1_aae02 (l : Launch) : MtS l yJ0_isLatin1_aae02 (Cond.code yJ0_isLatin1_aae02 cJ0_isLatin1_aae02 1 (some .boolean) :: WALL) { frames := 0, cells := 0, slots := 0, locals := 0 } [5] (some 0) T_J0_isLatin1_aae02 := by
  refine MtS.mk (B := E_J0_isLatin1_aae02) (by decide +kernel) (by decide) (fun _ _ _ hh => hh) ?_
  intro X Q e1 e2 e3 hC hN hT
  subst e1
  have hC : CF X cJ0_isLatin1_aae02 RJ0 WALL := hC
  have S_18 : SdS X 18 [(0, 5)] [0] (B_J0_isLatin1_aae02_18 Q) := by
    unfold B_J0_isLatin1_aae02_18
    exact su_zreturn hC hT dJ0_isLatin1_aae02_18
  have S_17 : SdS X 17 [(0, 5)] [] (B_J0_isLatin1_aae02_17 Q) := by
    unfold B_J0_isLatin1_aae02_17
    refine su_iconst hC dJ0_isLatin1_aae02_17 ⟨by decide, by decide⟩ (?_ : SdS X 18 [(0, 5)] [0] _)
    exact SdS.weak (by decide) (S_18)
  refine (?_ : SdS X 0 [(0, 5)] [] (E_J0_isLatin1_aae02 Q))
  unfold E_J0_isLatin1_aae02
  refine su_cstr hC wl_2_213 dJ0_isLatin1_aae02_0 (?_ : SdS X 3 [(0, 5)] [0] _)
  refine su_if_eq (tgt := 17) hC dJ0_isLatin1_aae02_3 rfl (?_ : SdS X 17 [(0, 5)] [] _) (?_ : SdS X 6 [(0, 5)] [] _)
  · exact SdS.weak (by decide) (S_17)
  · refine su_aload_n hC 5 dJ0_isLatin1_aae02_6 rfl (by decide) (by decide) (?_ : SdS X 7 [(0, 5)] [5] _)
    refine su_sco hC wl_8_214 dJ0_isLatin1_aae02_7 (?_ : SdS X 10 [(0, 5)] [0] _)
    refine su_if_ne (tgt := 17) hC dJ0_isLatin1_aae02_10 rfl (?_ : SdS X 17 [(0, 5)] [] _) (?_ : SdS X 13 [(0, 5)] [] _)
    · exact SdS.weak (by decide) (S_17)
    · refine su_iconst hC dJ0_isLatin1_aae02_13 ⟨by decide, by decide⟩ (?_ : SdS X 14 [(0, 5)] [0] _)
      refine su_goto (tgt := 18) hC dJ0_isLatin1_aae02_14 rfl (?_ : SdS X 18 [(0, 5)] [0] _)
      exact SdS.weak (by decide) (S_18)
theorem wl_2_226 : Cond.methodLink RJ1 9 yJ0_checkIndex_df160 ∈ WALL := tb2 (List.mem_of_getElem? (i := 226) rfl) rfl
theorem wl_2_227 : Cond.static yJ0_checkIndex_df160 ∈ WALL := tb2 (List.mem_of_getElem? (i := 227) rfl) rfl
theorem wl_2_228 : Cond.code yJ0_checkIndex_df160 cJ0_checkIndex_df160 2 none ∈ WALL := tb2 (List.mem_of_getElem? (i := 228) rfl) rfl
theorem hd_J1_charAt_3b067 : yJ1_charAt_3b067.cls ≠ "java/lang/invoke/MethodHandle" ∧ yJ1_charAt_3b067.cls ≠ "java/lang/invoke/VarHandle" ∧ (parseMethodDescriptor yJ1_charAt_3b067.desc).map (fun d => d.parameters.length) = some 2 := by decide +kernel
set_option maxRecDepth 100000 in
set_option maxHeartbeats 4000000 in
theorem M_J1_charAt_3b067 (l : Launch) : MtS l yJ1_charAt_3b067 (Cond.code yJ1_charAt_3b067 cJ1_charAt_3b067 2 (some .char) :: WALL) { frames := 2, cells := 0, slots := 0, locals := 43 } [4, 0] (some 0) T_J1_charAt_3b067 := by
  refine MtS.mk (B := E_J1_charAt_3b067) (by decide +kernel) (by decide) (fun _ _ _ hh => hh) ?_
  intro X Q e1 e2 e3 hC hN hT
  subst e1
  have hC : CF X cJ1_charAt_3b067 RJ1 WALL := hC
  refine (?_ : SdS X 0 [(0, 4), (1, 0)] [] (E_J1_charAt_3b067 Q))
  unfold E_J1_charAt_3b067
  refine su_iload_n hC dJ1_charAt_3b067_0 rfl (by decide) (?_ : SdS X 1 [(0, 4), (1, 0)] [0] _)
  refine su_aload_n hC 4 dJ1_charAt_3b067_1 rfl (by decide) (by decide) (?_ : SdS X 2 [(0, 4), (1, 0)] [4, 0] _)
  refine su_tlen hC dJ1_charAt_3b067_2 (?_ : SdS X 3 [(0, 4), (1, 0)] [0, 0] _)
  refine su_invsv (τ := []) (τs := [0, 0]) hC false "" WG (M_J0_checkIndex_df160 _) rfl rfl rfl rfl wl_2_226 wl_2_227 wl_1_12 wl_2_228 hd_J0_checkIndex_df160 (by rw [e3]; decide) (by decide) dJ1_charAt_3b067_3 (?_ : SdS X 6 [(0, 4), (1, 0)] [] _)
  refine su_aload_n hC 4 dJ1_charAt_3b067_6 rfl (by decide) (by decide) (?_ : SdS X 7 [(0, 4), (1, 0)] [4] _)
  refine su_iload_n hC dJ1_charAt_3b067_7 rfl (by decide) (?_ : SdS X 8 [(0, 4), (1, 0)] [0, 4] _)
  refine su_tat hC dJ1_charAt_3b067_8 (?_ : SdS X 9 [(0, 4), (1, 0)] [0] _)
  refine su_sipush hC dJ1_charAt_3b067_9 (by decide) (?_ : SdS X 12 [(0, 4), (1, 0)] [0, 0] _)
  refine su_iand hC dJ1_charAt_3b067_12 (?_ : SdS X 13 [(0, 4), (1, 0)] [0] _)
  refine su_i2c hC dJ1_charAt_3b067_13 (?_ : SdS X 14 [(0, 4), (1, 0)] [0] _)
  exact su_creturn hC hT dJ1_charAt_3b067_14
theorem wl_2_219 : Cond.methodLink RJ0 492 yJ0_isLatin1_aae02 ∈ WALL := tb2 (List.mem_of_getElem? (i := 219) rfl) rfl
theorem wl_2_220 : Cond.instanceMethod yJ0_isLatin1_aae02 ∈ WALL := tb2 (List.mem_of_getElem? (i := 220) rfl) rfl
theorem wl_2_221 : Cond.selects RJ0 yJ0_isLatin1_aae02 yJ0_isLatin1_aae02 ∈ WALL := tb2 (List.mem_of_getElem? (i := 221) rfl) rfl
theorem wl_2_222 : Cond.code yJ0_isLatin1_aae02 cJ0_isLatin1_aae02 1 (some .boolean) ∈ WALL := tb2 (List.mem_of_getElem? (i := 222) rfl) rfl
theorem wl_2_223 : Cond.methodLink RJ0 495 yJ1_charAt_3b067 ∈ WALL := tb2 (List.mem_of_getElem? (i := 223) rfl) rfl
theorem wl_2_224 : Cond.static yJ1_charAt_3b067 ∈ WALL := tb2 (List.mem_of_getElem? (i := 224) rfl) rfl
theorem wl_1_13 : Cond.initialized RJ1 ∈ WALL := tb1 (List.mem_of_getElem? (i := 13) rfl) rfl
theorem wl_2_225 : Cond.code yJ1_charAt_3b067 cJ1_charAt_3b067 2 (some .char) ∈ WALL := tb2 (List.mem_of_getElem? (i := 225) rfl) rfl
theorem hd_J0_charAt_5068e : yJ0_charAt_5068e.cls ≠ "java/lang/invoke/MethodHandle" ∧ yJ0_charAt_5068e.cls ≠ "java/lang/invoke/VarHandle" ∧ (parseMethodDescriptor yJ0_charAt_5068e.desc).map (fun d => d.parameters.length) = some 1 := by decide +kernel
set_option maxRecDepth 100000 in
set_option maxHeartbeats 4000000 in
theorem M_J0_charAt_5068e (l : Launch) : MtS l yJ0_charAt_5068e (Cond.code yJ0_charAt_5068e cJ0_charAt_5068e 2 (some .char) :: WALL) { frames := 3, cells := 0, slots := 0, locals := 64 } [5, 0] (some 0) T_J0_charAt_5068e := by
  refine MtS.mk (B := E_J0_charAt_5068e) (by decide +kernel) (by decide) (fun _ _ _ hh => hh) ?_
  intro X Q e1 e2 e3 hC hN hT
  subst e1
  have hC : CF X cJ0_charAt_5068e RJ0 WALL := hC
  refine (?_ : SdS X 0 [(0, 5), (1, 0)] [] (E_J0_charAt_5068e Q))
  unfold E_J0_charAt_5068e
  refine su_aload_n hC 5 dJ0_charAt_5068e_0 rfl (by decide) (by decide) (?_ : SdS X 1 [(0, 5), (1, 0)] [5] _)
  refine su_invT (τ := []) (τr := []) hC WG (M_J0_isLatin1_aae02 _) rfl rfl rfl rfl rfl wl_2_219 wl_2_220 wl_2_221 wl_1_12 wl_2_222 hd_J0_isLatin1_aae02 (by rw [e3]; decide) (by decide) dJ0_charAt_5068e_1 (?_ : SdS X 4 [(0, 5), (1, 0)] [0] _)
  refine su_if_eq (tgt := 16) hC dJ0_charAt_5068e_4 rfl (?_ : SdS X 16 [(0, 5), (1, 0)] [] _) (?_ : SdS X 7 [(0, 5), (1, 0)] [] _)
  · exact su_stop
  · refine su_aload_n hC 5 dJ0_charAt_5068e_7 rfl (by decide) (by decide) (?_ : SdS X 8 [(0, 5), (1, 0)] [5] _)
    refine su_sval hC wl_8_213 dJ0_charAt_5068e_8 (?_ : SdS X 11 [(0, 5), (1, 0)] [4] _)
    refine su_iload_n hC dJ0_charAt_5068e_11 rfl (by decide) (?_ : SdS X 12 [(0, 5), (1, 0)] [0, 4] _)
    refine su_invs (τ := []) (τs := [4, 0]) hC false "" WG (M_J1_charAt_3b067 _) rfl rfl rfl rfl wl_2_223 wl_2_224 wl_1_13 wl_2_225 hd_J1_charAt_3b067 (by rw [e3]; decide) (by decide) dJ0_charAt_5068e_12 (?_ : SdS X 15 [(0, 5), (1, 0)] [0] _)
    exact su_creturn hC hT dJ0_charAt_5068e_15
theorem wl_6_220 : Cond.methodLink RX10 77 yJ0_length_8abf5 ∈ WALL := tb6 (List.mem_of_getElem? (i := 220) rfl) rfl
theorem wl_2_206 : Cond.instanceMethod yJ0_length_8abf5 ∈ WALL := tb2 (List.mem_of_getElem? (i := 206) rfl) rfl
theorem wl_2_207 : Cond.selects RJ0 yJ0_length_8abf5 yJ0_length_8abf5 ∈ WALL := tb2 (List.mem_of_getElem? (i := 207) rfl) rfl
theorem wl_2_208 : Cond.code yJ0_length_8abf5 cJ0_length_8abf5 1 (some .int) ∈ WALL := tb2 (List.mem_of_getElem? (i := 208) rfl) rfl
theorem wl_6_221 : Cond.methodLink RX10 85 yJ0_charAt_5068e ∈ WALL := tb6 (List.mem_of_getElem? (i := 221) rfl) rfl
theorem wl_2_216 : Cond.instanceMethod yJ0_charAt_5068e ∈ WALL := tb2 (List.mem_of_getElem? (i := 216) rfl) rfl
theorem wl_2_217 : Cond.selects RJ0 yJ0_charAt_5068e yJ0_charAt_5068e ∈ WALL := tb2 (List.mem_of_getElem? (i := 217) rfl) rfl
theorem wl_2_218 : Cond.code yJ0_charAt_5068e cJ0_charAt_5068e 2 (some .char) ∈ WALL := tb2 (List.mem_of_getElem? (i := 218) rfl) rfl
theorem hd_X10_wordOf : yX10_wordOf.cls ≠ "java/lang/invoke/MethodHandle" ∧ yX10_wordOf.cls ≠ "java/lang/invoke/VarHandle" ∧ (parseMethodDescriptor yX10_wordOf.desc).map (fun d => d.parameters.length) = some 1 := by decide +kernel
set_option maxRecDepth 100000 in
set_option maxHeartbeats 4000000 in
theorem M_X10_wordOf (l : Launch) : MtS l yX10_wordOf (Cond.code yX10_wordOf cX10_wordOf 4 (some .long) :: WALL) { frames := 4, cells := 0, slots := 0, locals := 85 } [5] (some 1) T_X10_wordOf := by
  refine MtS.mk (B := E_X10_wordOf) (by decide +kernel) (by decide) (fun _ _ _ hh => hh) ?_
  intro X Q e1 e2 e3 hC hN hT
  subst e1
  have hC : CF X cX10_wordOf RX10 WALL := hC
  have S_4 : SdS X 4 [(0, 5), (1, 1), (3, 0)] [] (L_X10_wordOf_4 Q) := by
    unfold L_X10_wordOf_4
    refine SdS.loop (fun k4 h4 => ?_)
    refine su_iload_n hC dX10_wordOf_4 rfl (by decide) (?_ : SdS X 5 [(0, 5), (1, 1), (3, 0)] [0] _)
    refine su_aload_n hC 5 dX10_wordOf_5 rfl (by decide) (by decide) (?_ : SdS X 6 [(0, 5), (1, 1), (3, 0)] [5, 0] _)
    refine su_invT (τ := [0]) (τr := []) hC WG (M_J0_length_8abf5 _) rfl rfl rfl rfl rfl wl_6_220 wl_2_206 wl_2_207 wl_1_12 wl_2_208 hd_J0_length_8abf5 (by rw [e3]; decide) (by decide) dX10_wordOf_6 (?_ : SdS X 9 [(0, 5), (1, 1), (3, 0)] [0, 0] _)
    refine su_icmp_ge (tgt := 36) hC dX10_wordOf_9 rfl (?_ : SdS X 36 [(0, 5), (1, 1), (3, 0)] [] _) (?_ : SdS X 12 [(0, 5), (1, 1), (3, 0)] [] _)
    · refine su_lload_n hC dX10_wordOf_36 rfl (by decide) (?_ : SdS X 37 [(0, 5), (1, 1), (3, 0)] [1] _)
      exact su_lreturn hC hT dX10_wordOf_37
    · refine su_ldc2 hC wl_6_200 dX10_wordOf_12 ⟨by decide, by decide⟩ (?_ : SdS X 15 [(0, 5), (1, 1), (3, 0)] [1] _)
      refine su_lload_n hC dX10_wordOf_15 rfl (by decide) (?_ : SdS X 16 [(0, 5), (1, 1), (3, 0)] [1, 1] _)
      refine su_lmul hC dX10_wordOf_16 (?_ : SdS X 17 [(0, 5), (1, 1), (3, 0)] [1] _)
      refine su_aload_n hC 5 dX10_wordOf_17 rfl (by decide) (by decide) (?_ : SdS X 18 [(0, 5), (1, 1), (3, 0)] [5, 1] _)
      refine su_iload_n hC dX10_wordOf_18 rfl (by decide) (?_ : SdS X 19 [(0, 5), (1, 1), (3, 0)] [0, 5, 1] _)
      refine su_invT (τ := [1]) (τr := [0]) hC WG (M_J0_charAt_5068e _) rfl rfl rfl rfl rfl wl_6_221 wl_2_216 wl_2_217 wl_1_12 wl_2_218 hd_J0_charAt_5068e (by rw [e3]; decide) (by decide) dX10_wordOf_19 (?_ : SdS X 22 [(0, 5), (1, 1), (3, 0)] [0, 1] _)
      refine su_bipush hC dX10_wordOf_22 (by decide) (?_ : SdS X 24 [(0, 5), (1, 1), (3, 0)] [0, 0, 1] _)
      refine su_isub hC dX10_wordOf_24 (?_ : SdS X 25 [(0, 5), (1, 1), (3, 0)] [0, 1] _)
      refine su_iconst hC dX10_wordOf_25 ⟨by decide, by decide⟩ (?_ : SdS X 26 [(0, 5), (1, 1), (3, 0)] [0, 0, 1] _)
      refine su_iadd hC dX10_wordOf_26 (?_ : SdS X 27 [(0, 5), (1, 1), (3, 0)] [0, 1] _)
      refine su_i2l hC dX10_wordOf_27 (?_ : SdS X 28 [(0, 5), (1, 1), (3, 0)] [1, 1] _)
      refine su_ladd hC dX10_wordOf_28 (?_ : SdS X 29 [(0, 5), (1, 1), (3, 0)] [1] _)
      refine su_lstore_n (Γ' := [(0, 5), (1, 1), (3, 0)]) hC dX10_wordOf_29 rfl (by rw [e2]; decide) (by decide) (?_ : SdS X 30 [(0, 5), (1, 1), (3, 0)] [] _)
      refine su_iinc (Γ' := [(0, 5), (1, 1), (3, 0)]) hC dX10_wordOf_30 (by decide) (by rw [e2]; decide) (by decide) (?_ : SdS X 33 [(0, 5), (1, 1), (3, 0)] [] _)
      refine su_goto (tgt := 4) hC dX10_wordOf_33 rfl (?_ : SdS X 4 [(0, 5), (1, 1), (3, 0)] [] _)
      exact SdS.weak (by decide) h4
  refine (?_ : SdS X 0 [(0, 5)] [] (E_X10_wordOf Q))
  unfold E_X10_wordOf
  refine su_lconst hC rfl dX10_wordOf_0 (?_ : SdS X 1 [(0, 5)] [1] _)
  refine su_lstore_n (Γ' := [(0, 5), (1, 1)]) hC dX10_wordOf_1 rfl (by rw [e2]; decide) (by decide) (?_ : SdS X 2 [(0, 5), (1, 1)] [] _)
  refine su_iconst hC dX10_wordOf_2 ⟨by decide, by decide⟩ (?_ : SdS X 3 [(0, 5), (1, 1)] [0] _)
  refine su_istore_n (Γ' := [(0, 5), (1, 1), (3, 0)]) hC dX10_wordOf_3 rfl (by rw [e2]; decide) (by decide) (?_ : SdS X 4 [(0, 5), (1, 1), (3, 0)] [] _)
  exact SdS.weak (by decide) (S_4)
theorem wl_6_217 : Cond.methodLink RX10 124 yX10_wordOf ∈ WALL := tb6 (List.mem_of_getElem? (i := 217) rfl) rfl
theorem wl_6_218 : Cond.static yX10_wordOf ∈ WALL := tb6 (List.mem_of_getElem? (i := 218) rfl) rfl
theorem wl_6_219 : Cond.code yX10_wordOf cX10_wordOf 4 (some .long) ∈ WALL := tb6 (List.mem_of_getElem? (i := 219) rfl) rfl
theorem hd_X10_isWord : yX10_isWord.cls ≠ "java/lang/invoke/MethodHandle" ∧ yX10_isWord.cls ≠ "java/lang/invoke/VarHandle" ∧ (parseMethodDescriptor yX10_isWord.desc).map (fun d => d.parameters.length) = some 1 := by decide +kernel
set_option maxRecDepth 100000 in
set_option maxHeartbeats 4000000 in
theorem M_X10_isWord (l : Launch) : MtS l yX10_isWord (Cond.code yX10_isWord cX10_isWord 2 (some .boolean) :: WALL) { frames := 5, cells := 0, slots := 0, locals := 108 } [20, 5] (some 0) T_X10_isWord := by
  refine MtS.mk (B := E_X10_isWord) (by decide +kernel) (by decide) (fun _ _ _ hh => hh) ?_
  intro X Q e1 e2 e3 hC hN hT
  subst e1
  have hC : CF X cX10_isWord RX10 WALL := hC
  have S_25 : SdS X 25 [(0, 20), (1, 5)] [0] (B_X10_isWord_25 Q) := by
    unfold B_X10_isWord_25
    exact su_zreturn hC hT dX10_isWord_25
  have S_24 : SdS X 24 [(0, 20), (1, 5)] [] (B_X10_isWord_24 Q) := by
    unfold B_X10_isWord_24
    refine su_iconst hC dX10_isWord_24 ⟨by decide, by decide⟩ (?_ : SdS X 25 [(0, 20), (1, 5)] [0] _)
    exact SdS.weak (by decide) (S_25)
  refine (?_ : SdS X 0 [(0, 20), (1, 5)] [] (E_X10_isWord Q))
  unfold E_X10_isWord
  refine su_aload_n hC 20 dX10_isWord_0 rfl (by decide) (by decide) (?_ : SdS X 1 [(0, 20), (1, 5)] [20] _)
  refine su_getF hC (ci := 10) (j := 9) (C := RX10) (T := TX10) (N := 45) rfl rfl (by decide) in_X10 wl_5_173 rfl dX10_isWord_1 (?_ : SdS X 4 [(0, 20), (1, 5)] [0] _)
  refine su_iconst hC dX10_isWord_4 ⟨by decide, by decide⟩ (?_ : SdS X 5 [(0, 20), (1, 5)] [0, 0] _)
  refine su_icmp_ne (tgt := 24) hC dX10_isWord_5 rfl (?_ : SdS X 24 [(0, 20), (1, 5)] [] _) (?_ : SdS X 8 [(0, 20), (1, 5)] [] _)
  · exact SdS.weak (by decide) (S_24)
  · refine su_aload_n hC 20 dX10_isWord_8 rfl (by decide) (by decide) (?_ : SdS X 9 [(0, 20), (1, 5)] [20] _)
    refine su_getF hC (ci := 10) (j := 15) (C := RX10) (T := TX10) (N := 45) rfl rfl (by decide) in_X10 wl_5_179 rfl dX10_isWord_9 (?_ : SdS X 12 [(0, 20), (1, 5)] [1] _)
    refine su_aload_n hC 5 dX10_isWord_12 rfl (by decide) (by decide) (?_ : SdS X 13 [(0, 20), (1, 5)] [5, 1] _)
    refine su_invs (τ := [1]) (τs := [5]) hC false "" WG (M_X10_wordOf _) rfl rfl rfl rfl wl_6_217 wl_6_218 wl_1_10 wl_6_219 hd_X10_wordOf (by rw [e3]; decide) (by decide) dX10_isWord_13 (?_ : SdS X 16 [(0, 20), (1, 5)] [1, 1] _)
    refine su_lcmp hC dX10_isWord_16 (?_ : SdS X 17 [(0, 20), (1, 5)] [0] _)
    refine su_if_ne (tgt := 24) hC dX10_isWord_17 rfl (?_ : SdS X 24 [(0, 20), (1, 5)] [] _) (?_ : SdS X 20 [(0, 20), (1, 5)] [] _)
    · exact SdS.weak (by decide) (S_24)
    · refine su_iconst hC dX10_isWord_20 ⟨by decide, by decide⟩ (?_ : SdS X 21 [(0, 20), (1, 5)] [0] _)
      refine su_goto (tgt := 25) hC dX10_isWord_21 rfl (?_ : SdS X 25 [(0, 20), (1, 5)] [0] _)
      exact SdS.weak (by decide) (S_25)
theorem wl_6_234 : Cond.methodLink RX10 143 yX10_bounded ∈ WALL := tb6 (List.mem_of_getElem? (i := 234) rfl) rfl
theorem wl_6_236 : Cond.instanceMethod yX10_bounded ∈ WALL := tb6 (List.mem_of_getElem? (i := 236) rfl) rfl
theorem wp_72 : Cond.selects RX10 yX10_bounded yX10_bounded ∈ WALL := tbS (List.mem_of_getElem? (i := 72) rfl)
theorem wl_6_237 : Cond.code yX10_bounded cX10_bounded 3 (some .int) ∈ WALL := tb6 (List.mem_of_getElem? (i := 237) rfl) rfl
theorem hd_X10_readWhole : yX10_readWhole.cls ≠ "java/lang/invoke/MethodHandle" ∧ yX10_readWhole.cls ≠ "java/lang/invoke/VarHandle" ∧ (parseMethodDescriptor yX10_readWhole.desc).map (fun d => d.parameters.length) = some 2 := by decide +kernel
set_option maxRecDepth 100000 in
set_option maxHeartbeats 4000000 in
theorem M_X10_readWhole (l : Launch) : MtS l yX10_readWhole (Cond.code yX10_readWhole cX10_readWhole 4 (some .int) :: WALL) { frames := 2, cells := 0, slots := 0, locals := 44 } [20, 0, 0] (some 0) T_X10_readWhole := by
  refine MtS.mk (B := E_X10_readWhole) (by decide +kernel) (by decide) (fun _ _ _ hh => hh) ?_
  intro X Q e1 e2 e3 hC hN hT
  subst e1
  have hC : CF X cX10_readWhole RX10 WALL := hC
  refine (?_ : SdS X 0 [(0, 20), (1, 0), (2, 0)] [] (E_X10_readWhole Q))
  unfold E_X10_readWhole
  refine su_aload_n hC 20 dX10_readWhole_0 rfl (by decide) (by decide) (?_ : SdS X 1 [(0, 20), (1, 0), (2, 0)] [20] _)
  refine su_iload_n hC dX10_readWhole_1 rfl (by decide) (?_ : SdS X 2 [(0, 20), (1, 0), (2, 0)] [0, 20] _)
  refine su_iload_n hC dX10_readWhole_2 rfl (by decide) (?_ : SdS X 3 [(0, 20), (1, 0), (2, 0)] [0, 0, 20] _)
  refine su_inv0 (τ := []) (τr := [0, 0]) (ci := 10) (q := (RX10, TX10, 45)) hC WG (M_X10_bounded _) rfl rfl rfl rfl  rfl rfl wl_6_234 wl_6_236 wp_72 wl_1_10 wl_6_237 hd_X10_bounded (by rw [e3]; decide) (by decide) dX10_readWhole_3 (?_ : SdS X 6 [(0, 20), (1, 0), (2, 0)] [0] _)
  refine su_istore_n (Γ' := [(0, 20), (1, 0), (2, 0), (3, 0)]) hC dX10_readWhole_6 rfl (by rw [e2]; decide) (by decide) (?_ : SdS X 7 [(0, 20), (1, 0), (2, 0), (3, 0)] [] _)
  refine su_aload_n hC 20 dX10_readWhole_7 rfl (by decide) (by decide) (?_ : SdS X 8 [(0, 20), (1, 0), (2, 0), (3, 0)] [20] _)
  refine su_inv0v (τ := []) (τr := []) (ci := 10) (q := (RX10, TX10, 45)) hC WG (M_X10_goesOn _) rfl rfl rfl rfl  rfl rfl wl_6_189 wl_6_191 wp_64 wl_1_10 wl_6_192 hd_X10_goesOn (by rw [e3]; decide) (by decide) dX10_readWhole_8 (?_ : SdS X 11 [(0, 20), (1, 0), (2, 0), (3, 0)] [] _)
  refine su_iload_n hC dX10_readWhole_11 rfl (by decide) (?_ : SdS X 12 [(0, 20), (1, 0), (2, 0), (3, 0)] [0] _)
  exact su_ireturn hC hT dX10_readWhole_12
theorem hd_X10_eatsSign : yX10_eatsSign.cls ≠ "java/lang/invoke/MethodHandle" ∧ yX10_eatsSign.cls ≠ "java/lang/invoke/VarHandle" ∧ (parseMethodDescriptor yX10_eatsSign.desc).map (fun d => d.parameters.length) = some 1 := by decide +kernel
set_option maxRecDepth 100000 in
set_option maxHeartbeats 4000000 in
theorem M_X10_eatsSign (l : Launch) : MtS l yX10_eatsSign (Cond.code yX10_eatsSign cX10_eatsSign 3 (some .boolean) :: WALL) { frames := 2, cells := 0, slots := 0, locals := 43 } [20, 0] (some 0) T_X10_eatsSign := by
  refine MtS.mk (B := E_X10_eatsSign) (by decide +kernel) (by decide) (fun _ _ _ hh => hh) ?_
  intro X Q e1 e2 e3 hC hN hT
  subst e1
  have hC : CF X cX10_eatsSign RX10 WALL := hC
  have S_30 : SdS X 30 [(0, 20), (1, 0), (2, 0)] [] (B_X10_eatsSign_30 Q) := by
    unfold B_X10_eatsSign_30
    refine su_iload_n hC dX10_eatsSign_30 rfl (by decide) (?_ : SdS X 31 [(0, 20), (1, 0), (2, 0)] [0] _)
    exact su_zreturn hC hT dX10_eatsSign_31
  have S_21 : SdS X 21 [(0, 20), (1, 0)] [0] (B_X10_eatsSign_21 Q) := by
    unfold B_X10_eatsSign_21
    refine su_istore_n (Γ' := [(0, 20), (1, 0), (2, 0)]) hC dX10_eatsSign_21 rfl (by rw [e2]; decide) (by decide) (?_ : SdS X 22 [(0, 20), (1, 0), (2, 0)] [] _)
    refine su_iload_n hC dX10_eatsSign_22 rfl (by decide) (?_ : SdS X 23 [(0, 20), (1, 0), (2, 0)] [0] _)
    refine su_if_eq (tgt := 30) hC dX10_eatsSign_23 rfl (?_ : SdS X 30 [(0, 20), (1, 0), (2, 0)] [] _) (?_ : SdS X 26 [(0, 20), (1, 0), (2, 0)] [] _)
    · exact SdS.weak (by decide) (S_30)
    · refine su_aload_n hC 20 dX10_eatsSign_26 rfl (by decide) (by decide) (?_ : SdS X 27 [(0, 20), (1, 0), (2, 0)] [20] _)
      refine su_inv0v (τ := []) (τr := []) (ci := 10) (q := (RX10, TX10, 45)) hC WG (M_X10_goesOn _) rfl rfl rfl rfl  rfl rfl wl_6_189 wl_6_191 wp_64 wl_1_10 wl_6_192 hd_X10_goesOn (by rw [e3]; decide) (by decide) dX10_eatsSign_27 (?_ : SdS X 30 [(0, 20), (1, 0), (2, 0)] [] _)
      exact SdS.weak (by decide) (S_30)
  have S_20 : SdS X 20 [(0, 20), (1, 0)] [] (B_X10_eatsSign_20 Q) := by
    unfold B_X10_eatsSign_20
    refine su_iconst hC dX10_eatsSign_20 ⟨by decide, by decide⟩ (?_ : SdS X 21 [(0, 20), (1, 0)] [0] _)
    exact SdS.weak (by decide) (S_21)
  refine (?_ : SdS X 0 [(0, 20), (1, 0)] [] (E_X10_eatsSign Q))
  unfold E_X10_eatsSign
  refine su_aload_n hC 20 dX10_eatsSign_0 rfl (by decide) (by decide) (?_ : SdS X 1 [(0, 20), (1, 0)] [20] _)
  refine su_getF hC (ci := 10) (j := 9) (C := RX10) (T := TX10) (N := 45) rfl rfl (by decide) in_X10 wl_5_173 rfl dX10_eatsSign_1 (?_ : SdS X 4 [(0, 20), (1, 0)] [0] _)
  refine su_iconst hC dX10_eatsSign_4 ⟨by decide, by decide⟩ (?_ : SdS X 5 [(0, 20), (1, 0)] [0, 0] _)
  refine su_icmp_ne (tgt := 20) hC dX10_eatsSign_5 rfl (?_ : SdS X 20 [(0, 20), (1, 0)] [] _) (?_ : SdS X 8 [(0, 20), (1, 0)] [] _)
  · exact SdS.weak (by decide) (S_20)
  · refine su_aload_n hC 20 dX10_eatsSign_8 rfl (by decide) (by decide) (?_ : SdS X 9 [(0, 20), (1, 0)] [20] _)
    refine su_getF hC (ci := 10) (j := 11) (C := RX10) (T := TX10) (N := 45) rfl rfl (by decide) in_X10 wl_5_175 rfl dX10_eatsSign_9 (?_ : SdS X 12 [(0, 20), (1, 0)] [0] _)
    refine su_iload_n hC dX10_eatsSign_12 rfl (by decide) (?_ : SdS X 13 [(0, 20), (1, 0)] [0, 0] _)
    refine su_icmp_ne (tgt := 20) hC dX10_eatsSign_13 rfl (?_ : SdS X 20 [(0, 20), (1, 0)] [] _) (?_ : SdS X 16 [(0, 20), (1, 0)] [] _)
    · exact SdS.weak (by decide) (S_20)
    · refine su_iconst hC dX10_eatsSign_16 ⟨by decide, by decide⟩ (?_ : SdS X 17 [(0, 20), (1, 0)] [0] _)
      refine su_goto (tgt := 21) hC dX10_eatsSign_17 rfl (?_ : SdS X 21 [(0, 20), (1, 0)] [0] _)
      exact SdS.weak (by decide) (S_21)
theorem wl_6_230 : Cond.methodLink RX10 151 yX10_readWhole ∈ WALL := tb6 (List.mem_of_getElem? (i := 230) rfl) rfl
theorem wl_6_232 : Cond.instanceMethod yX10_readWhole ∈ WALL := tb6 (List.mem_of_getElem? (i := 232) rfl) rfl
theorem wp_71 : Cond.selects RX10 yX10_readWhole yX10_readWhole ∈ WALL := tbS (List.mem_of_getElem? (i := 71) rfl)
theorem wl_6_233 : Cond.code yX10_readWhole cX10_readWhole 4 (some .int) ∈ WALL := tb6 (List.mem_of_getElem? (i := 233) rfl) rfl
theorem wl_7_1 : Cond.methodLink RX10 189 yX10_eatsSign ∈ WALL := tb7 (List.mem_of_getElem? (i := 1) rfl) rfl
theorem wl_7_3 : Cond.instanceMethod yX10_eatsSign ∈ WALL := tb7 (List.mem_of_getElem? (i := 3) rfl) rfl
theorem wp_73 : Cond.selects RX10 yX10_eatsSign yX10_eatsSign ∈ WALL := tbS (List.mem_of_getElem? (i := 73) rfl)
theorem wl_7_4 : Cond.code yX10_eatsSign cX10_eatsSign 3 (some .boolean) ∈ WALL := tb7 (List.mem_of_getElem? (i := 4) rfl) rfl
theorem hd_X10_readRings : yX10_readRings.cls ≠ "java/lang/invoke/MethodHandle" ∧ yX10_readRings.cls ≠ "java/lang/invoke/VarHandle" ∧ (parseMethodDescriptor yX10_readRings.desc).map (fun d => d.parameters.length) = some 0 := by decide +kernel
set_option maxRecDepth 100000 in
set_option maxHeartbeats 4000000 in
theorem M_X10_readRings (l : Launch) : MtS l yX10_readRings (Cond.code yX10_readRings cX10_readRings 4 none :: WALL) { frames := 3, cells := 0, slots := 0, locals := 67 } [20] none T_X10_readRings := by
  refine MtS.mk (B := E_X10_readRings) (by decide +kernel) (by decide) (fun _ _ _ hh => hh) ?_
  intro X Q e1 e2 e3 hC hN hT
  subst e1
  have hC : CF X cX10_readRings RX10 WALL := hC
  have S_144 : SdS X 144 [(0, 20), (1, 0), (2, 0)] [] (B_X10_readRings_144 Q) := by
    unfold B_X10_readRings_144
    exact su_return hC hT dX10_readRings_144
  have S_128 : SdS X 128 [(0, 20), (1, 0), (2, 0)] [] (B_X10_readRings_128 Q) := by
    unfold B_X10_readRings_128
    refine su_aload_n hC 20 dX10_readRings_128 rfl (by decide) (by decide) (?_ : SdS X 129 [(0, 20), (1, 0), (2, 0)] [20] _)
    refine su_getF hC (ci := 10) (j := 9) (C := RX10) (T := TX10) (N := 45) rfl rfl (by decide) in_X10 wl_5_173 rfl dX10_readRings_129 (?_ : SdS X 132 [(0, 20), (1, 0), (2, 0)] [0] _)
    refine su_iconst hC dX10_readRings_132 ⟨by decide, by decide⟩ (?_ : SdS X 133 [(0, 20), (1, 0), (2, 0)] [0, 0] _)
    refine su_icmp_eq (tgt := 144) hC dX10_readRings_133 rfl (?_ : SdS X 144 [(0, 20), (1, 0), (2, 0)] [] _) (?_ : SdS X 136 [(0, 20), (1, 0), (2, 0)] [] _)
    · exact SdS.weak (by decide) (S_144)
    · refine su_aload_n hC 20 dX10_readRings_136 rfl (by decide) (by decide) (?_ : SdS X 137 [(0, 20), (1, 0), (2, 0)] [20] _)
      refine su_getR hC (ci := 10) (j := 4) (C := RX10) (T := TX10) (N := 45) rfl rfl (by decide) in_X10 wl_5_168 rfl dX10_readRings_137 (?_ : SdS X 140 [(0, 20), (1, 0), (2, 0)] [19] _)
      refine su_iload_n hC dX10_readRings_140 rfl (by decide) (?_ : SdS X 141 [(0, 20), (1, 0), (2, 0)] [0, 19] _)
      refine su_putFN hC (ci := 9) (j := 0) (C := RX9) (T := TX9) (N := 28) (host := "NarrowRingsModel") tyX9 tyX9_ok nmX9 rfl rfl (by decide) in_X9 rfl rfl (by decide) rfl dX10_readRings_141 (?_ : SdS X 144 [(0, 20), (1, 0), (2, 0)] [] _)
      exact SdS.weak (by decide) (S_144)
  have S_118 : SdS X 118 [(0, 20), (1, 0), (2, 0)] [] (B_X10_readRings_118 Q) := by
    unfold B_X10_readRings_118
    refine su_iload_n hC dX10_readRings_118 rfl (by decide) (?_ : SdS X 119 [(0, 20), (1, 0), (2, 0)] [0] _)
    refine su_iconst hC dX10_readRings_119 ⟨by decide, by decide⟩ (?_ : SdS X 120 [(0, 20), (1, 0), (2, 0)] [0, 0] _)
    refine su_icmp_ge (tgt := 128) hC dX10_readRings_120 rfl (?_ : SdS X 128 [(0, 20), (1, 0), (2, 0)] [] _) (?_ : SdS X 123 [(0, 20), (1, 0), (2, 0)] [] _)
    · exact SdS.weak (by decide) (S_128)
    · refine su_aload_n hC 20 dX10_readRings_123 rfl (by decide) (by decide) (?_ : SdS X 124 [(0, 20), (1, 0), (2, 0)] [20] _)
      refine su_iconst hC dX10_readRings_124 ⟨by decide, by decide⟩ (?_ : SdS X 125 [(0, 20), (1, 0), (2, 0)] [0, 20] _)
      refine su_inv0v (τ := []) (τr := [0]) (ci := 10) (q := (RX10, TX10, 45)) hC WG (M_X10_wrong _) rfl rfl rfl rfl  rfl rfl wl_6_226 wl_6_228 wp_70 wl_1_10 wl_6_229 hd_X10_wrong (by rw [e3]; decide) (by decide) dX10_readRings_125 (?_ : SdS X 128 [(0, 20), (1, 0), (2, 0)] [] _)
      exact SdS.weak (by decide) (S_128)
  have S_82 : ∀ (k23 : xK), SdS X 23 [(0, 20), (1, 0), (2, 0)] [] k23 → SdS X 82 [(0, 20), (1, 0), (2, 0)] [0, 0, 20] (B_X10_readRings_82 Q k23) := by
    intro k23 h23
    unfold B_X10_readRings_82
    refine su_inv0 (τ := []) (τr := [0, 0]) (ci := 10) (q := (RX10, TX10, 45)) hC WG (M_X10_readWhole _) rfl rfl rfl rfl  rfl rfl wl_6_230 wl_6_232 wp_71 wl_1_10 wl_6_233 hd_X10_readWhole (by rw [e3]; decide) (by decide) dX10_readRings_82 (?_ : SdS X 85 [(0, 20), (1, 0), (2, 0)] [0] _)
    refine su_istore_n (Γ' := [(0, 20), (1, 0), (2, 0), (3, 0)]) hC dX10_readRings_85 rfl (by rw [e2]; decide) (by decide) (?_ : SdS X 86 [(0, 20), (1, 0), (2, 0), (3, 0)] [] _)
    refine su_aload_n hC 20 dX10_readRings_86 rfl (by decide) (by decide) (?_ : SdS X 87 [(0, 20), (1, 0), (2, 0), (3, 0)] [20] _)
    refine su_getF hC (ci := 10) (j := 9) (C := RX10) (T := TX10) (N := 45) rfl rfl (by decide) in_X10 wl_5_173 rfl dX10_readRings_87 (?_ : SdS X 90 [(0, 20), (1, 0), (2, 0), (3, 0)] [0] _)
    refine su_iconst hC dX10_readRings_90 ⟨by decide, by decide⟩ (?_ : SdS X 91 [(0, 20), (1, 0), (2, 0), (3, 0)] [0, 0] _)
    refine su_icmp_ne (tgt := 95) hC dX10_readRings_91 rfl (?_ : SdS X 95 [(0, 20), (1, 0), (2, 0), (3, 0)] [] _) (?_ : SdS X 94 [(0, 20), (1, 0), (2, 0), (3, 0)] [] _)
    · refine su_aload_n hC 20 dX10_readRings_95 rfl (by decide) (by decide) (?_ : SdS X 96 [(0, 20), (1, 0), (2, 0), (3, 0)] [20] _)
      refine su_getR hC (ci := 10) (j := 4) (C := RX10) (T := TX10) (N := 45) rfl rfl (by decide) in_X10 wl_5_168 rfl dX10_readRings_96 (?_ : SdS X 99 [(0, 20), (1, 0), (2, 0), (3, 0)] [19] _)
      refine su_getRN hC (ci := 9) (j := 6) (C := RX9) (T := TX9) (N := 28) (host := "NarrowRingsModel") rfl rfl (by decide) in_X9 (by decide) rfl dX10_readRings_99 (?_ : SdS X 102 [(0, 20), (1, 0), (2, 0), (3, 0)] [100] _)
      refine su_iload_n hC dX10_readRings_102 rfl (by decide) (?_ : SdS X 103 [(0, 20), (1, 0), (2, 0), (3, 0)] [0, 100] _)
      refine su_iload_n hC dX10_readRings_103 rfl (by decide) (?_ : SdS X 104 [(0, 20), (1, 0), (2, 0), (3, 0)] [0, 0, 100] _)
      refine su_iastore hC dX10_readRings_104 (?_ : SdS X 105 [(0, 20), (1, 0), (2, 0), (3, 0)] [] _)
      refine su_iinc (Γ' := [(0, 20), (1, 0), (2, 0), (3, 0)]) hC dX10_readRings_105 (by decide) (by rw [e2]; decide) (by decide) (?_ : SdS X 108 [(0, 20), (1, 0), (2, 0), (3, 0)] [] _)
      refine su_aload_n hC 20 dX10_readRings_108 rfl (by decide) (by decide) (?_ : SdS X 109 [(0, 20), (1, 0), (2, 0), (3, 0)] [20] _)
      refine su_bipush hC dX10_readRings_109 (by decide) (?_ : SdS X 111 [(0, 20), (1, 0), (2, 0), (3, 0)] [0, 20] _)
      refine su_inv0 (τ := []) (τr := [0]) (ci := 10) (q := (RX10, TX10, 45)) hC WG (M_X10_eatsSign _) rfl rfl rfl rfl  rfl rfl wl_7_1 wl_7_3 wp_73 wl_1_10 wl_7_4 hd_X10_eatsSign (by rw [e3]; decide) (by decide) dX10_readRings_111 (?_ : SdS X 114 [(0, 20), (1, 0), (2, 0), (3, 0)] [0] _)
      refine su_istore_n (Γ' := [(0, 20), (1, 0), (2, 0), (3, 0)]) hC dX10_readRings_114 rfl (by rw [e2]; decide) (by decide) (?_ : SdS X 115 [(0, 20), (1, 0), (2, 0), (3, 0)] [] _)
      refine su_goto (tgt := 23) hC dX10_readRings_115 rfl (?_ : SdS X 23 [(0, 20), (1, 0), (2, 0), (3, 0)] [] _)
      exact SdS.weak (by decide) h23
    · exact su_return hC hT dX10_readRings_94
  have S_66 : ∀ (k23 : xK), SdS X 23 [(0, 20), (1, 0), (2, 0)] [] k23 → SdS X 66 [(0, 20), (1, 0), (2, 0)] [0, 20] (B_X10_readRings_66 Q k23) := by
    intro k23 h23
    unfold B_X10_readRings_66
    refine su_bipush hC dX10_readRings_66 (by decide) (?_ : SdS X 68 [(0, 20), (1, 0), (2, 0)] [0, 0, 20] _)
    refine su_goto (tgt := 82) hC dX10_readRings_68 rfl (?_ : SdS X 82 [(0, 20), (1, 0), (2, 0)] [0, 0, 20] _)
    exact SdS.weak (by decide) (S_82 k23 h23)
  have S_54 : ∀ (k23 : xK), SdS X 23 [(0, 20), (1, 0), (2, 0)] [] k23 → SdS X 54 [(0, 20), (1, 0), (2, 0)] [] (B_X10_readRings_54 Q k23) := by
    intro k23 h23
    unfold B_X10_readRings_54
    refine su_aload_n hC 20 dX10_readRings_54 rfl (by decide) (by decide) (?_ : SdS X 55 [(0, 20), (1, 0), (2, 0)] [20] _)
    refine su_iconst hC dX10_readRings_55 ⟨by decide, by decide⟩ (?_ : SdS X 56 [(0, 20), (1, 0), (2, 0)] [0, 20] _)
    refine su_iload_n hC dX10_readRings_56 rfl (by decide) (?_ : SdS X 57 [(0, 20), (1, 0), (2, 0)] [0, 0, 20] _)
    refine su_if_eq (tgt := 66) hC dX10_readRings_57 rfl (?_ : SdS X 66 [(0, 20), (1, 0), (2, 0)] [0, 20] _) (?_ : SdS X 60 [(0, 20), (1, 0), (2, 0)] [0, 20] _)
    · exact SdS.weak (by decide) (S_66 k23 h23)
    · refine su_iload_n hC dX10_readRings_60 rfl (by decide) (?_ : SdS X 61 [(0, 20), (1, 0), (2, 0)] [0, 0, 20] _)
      refine su_bipush hC dX10_readRings_61 (by decide) (?_ : SdS X 63 [(0, 20), (1, 0), (2, 0)] [0, 0, 0, 20] _)
      refine su_icmp_ne (tgt := 71) hC dX10_readRings_63 rfl (?_ : SdS X 71 [(0, 20), (1, 0), (2, 0)] [0, 20] _) (?_ : SdS X 66 [(0, 20), (1, 0), (2, 0)] [0, 20] _)
      · refine su_aload_n hC 20 dX10_readRings_71 rfl (by decide) (by decide) (?_ : SdS X 72 [(0, 20), (1, 0), (2, 0)] [20, 0, 20] _)
        refine su_getR hC (ci := 10) (j := 4) (C := RX10) (T := TX10) (N := 45) rfl rfl (by decide) in_X10 wl_5_168 rfl dX10_readRings_72 (?_ : SdS X 75 [(0, 20), (1, 0), (2, 0)] [19, 0, 20] _)
        refine su_getRN hC (ci := 9) (j := 6) (C := RX9) (T := TX9) (N := 28) (host := "NarrowRingsModel") rfl rfl (by decide) in_X9 (by decide) rfl dX10_readRings_75 (?_ : SdS X 78 [(0, 20), (1, 0), (2, 0)] [100, 0, 20] _)
        refine su_iload_n hC dX10_readRings_78 rfl (by decide) (?_ : SdS X 79 [(0, 20), (1, 0), (2, 0)] [0, 100, 0, 20] _)
        refine su_iconst hC dX10_readRings_79 ⟨by decide, by decide⟩ (?_ : SdS X 80 [(0, 20), (1, 0), (2, 0)] [0, 0, 100, 0, 20] _)
        refine su_isub hC dX10_readRings_80 (?_ : SdS X 81 [(0, 20), (1, 0), (2, 0)] [0, 100, 0, 20] _)
        refine su_iaload hC dX10_readRings_81 (?_ : SdS X 82 [(0, 20), (1, 0), (2, 0)] [0, 0, 20] _)
        exact SdS.weak (by decide) (S_82 k23 h23)
      · exact SdS.weak (by decide) (S_66 k23 h23)
  have S_23 : SdS X 23 [(0, 20), (1, 0), (2, 0)] [] (L_X10_readRings_23 Q) := by
    unfold L_X10_readRings_23
    refine SdS.loop (fun k23 h23 => ?_)
    refine su_iload_n hC dX10_readRings_23 rfl (by decide) (?_ : SdS X 24 [(0, 20), (1, 0), (2, 0)] [0] _)
    refine su_if_eq (tgt := 118) hC dX10_readRings_24 rfl (?_ : SdS X 118 [(0, 20), (1, 0), (2, 0)] [] _) (?_ : SdS X 27 [(0, 20), (1, 0), (2, 0)] [] _)
    · exact SdS.weak (by decide) (S_118)
    · refine su_aload_n hC 20 dX10_readRings_27 rfl (by decide) (by decide) (?_ : SdS X 28 [(0, 20), (1, 0), (2, 0)] [20] _)
      refine su_getF hC (ci := 10) (j := 9) (C := RX10) (T := TX10) (N := 45) rfl rfl (by decide) in_X10 wl_5_173 rfl dX10_readRings_28 (?_ : SdS X 31 [(0, 20), (1, 0), (2, 0)] [0] _)
      refine su_iconst hC dX10_readRings_31 ⟨by decide, by decide⟩ (?_ : SdS X 32 [(0, 20), (1, 0), (2, 0)] [0, 0] _)
      refine su_icmp_eq (tgt := 118) hC dX10_readRings_32 rfl (?_ : SdS X 118 [(0, 20), (1, 0), (2, 0)] [] _) (?_ : SdS X 35 [(0, 20), (1, 0), (2, 0)] [] _)
      · exact SdS.weak (by decide) (S_118)
      · refine su_aload_n hC 20 dX10_readRings_35 rfl (by decide) (by decide) (?_ : SdS X 36 [(0, 20), (1, 0), (2, 0)] [20] _)
        refine su_getF hC (ci := 10) (j := 9) (C := RX10) (T := TX10) (N := 45) rfl rfl (by decide) in_X10 wl_5_173 rfl dX10_readRings_36 (?_ : SdS X 39 [(0, 20), (1, 0), (2, 0)] [0] _)
        refine su_iconst hC dX10_readRings_39 ⟨by decide, by decide⟩ (?_ : SdS X 40 [(0, 20), (1, 0), (2, 0)] [0, 0] _)
        refine su_icmp_ne (tgt := 54) hC dX10_readRings_40 rfl (?_ : SdS X 54 [(0, 20), (1, 0), (2, 0)] [] _) (?_ : SdS X 43 [(0, 20), (1, 0), (2, 0)] [] _)
        · exact SdS.weak (by decide) (S_54 k23 h23)
        · refine su_iload_n hC dX10_readRings_43 rfl (by decide) (?_ : SdS X 44 [(0, 20), (1, 0), (2, 0)] [0] _)
          refine su_bipush hC dX10_readRings_44 (by decide) (?_ : SdS X 46 [(0, 20), (1, 0), (2, 0)] [0, 0] _)
          refine su_icmp_ne (tgt := 54) hC dX10_readRings_46 rfl (?_ : SdS X 54 [(0, 20), (1, 0), (2, 0)] [] _) (?_ : SdS X 49 [(0, 20), (1, 0), (2, 0)] [] _)
          · exact SdS.weak (by decide) (S_54 k23 h23)
          · refine su_aload_n hC 20 dX10_readRings_49 rfl (by decide) (by decide) (?_ : SdS X 50 [(0, 20), (1, 0), (2, 0)] [20] _)
            refine su_iconst hC dX10_readRings_50 ⟨by decide, by decide⟩ (?_ : SdS X 51 [(0, 20), (1, 0), (2, 0)] [0, 20] _)
            refine su_inv0v (τ := []) (τr := [0]) (ci := 10) (q := (RX10, TX10, 45)) hC WG (M_X10_wrong _) rfl rfl rfl rfl  rfl rfl wl_6_226 wl_6_228 wp_70 wl_1_10 wl_6_229 hd_X10_wrong (by rw [e3]; decide) (by decide) dX10_readRings_51 (?_ : SdS X 54 [(0, 20), (1, 0), (2, 0)] [] _)
            exact SdS.weak (by decide) (S_54 k23 h23)
  have S_15 : SdS X 15 [(0, 20)] [] (B_X10_readRings_15 Q) := by
    unfold B_X10_readRings_15
    refine su_aload_n hC 20 dX10_readRings_15 rfl (by decide) (by decide) (?_ : SdS X 16 [(0, 20)] [20] _)
    refine su_inv0v (τ := []) (τr := []) (ci := 10) (q := (RX10, TX10, 45)) hC WG (M_X10_goesOn _) rfl rfl rfl rfl  rfl rfl wl_6_189 wl_6_191 wp_64 wl_1_10 wl_6_192 hd_X10_goesOn (by rw [e3]; decide) (by decide) dX10_readRings_16 (?_ : SdS X 19 [(0, 20)] [] _)
    refine su_iconst hC dX10_readRings_19 ⟨by decide, by decide⟩ (?_ : SdS X 20 [(0, 20)] [0] _)
    refine su_istore_n (Γ' := [(0, 20), (1, 0)]) hC dX10_readRings_20 rfl (by rw [e2]; decide) (by decide) (?_ : SdS X 21 [(0, 20), (1, 0)] [] _)
    refine su_iconst hC dX10_readRings_21 ⟨by decide, by decide⟩ (?_ : SdS X 22 [(0, 20), (1, 0)] [0] _)
    refine su_istore_n (Γ' := [(0, 20), (1, 0), (2, 0)]) hC dX10_readRings_22 rfl (by rw [e2]; decide) (by decide) (?_ : SdS X 23 [(0, 20), (1, 0), (2, 0)] [] _)
    exact SdS.weak (by decide) (S_23)
  refine (?_ : SdS X 0 [(0, 20)] [] (E_X10_readRings Q))
  unfold E_X10_readRings
  refine su_aload_n hC 20 dX10_readRings_0 rfl (by decide) (by decide) (?_ : SdS X 1 [(0, 20)] [20] _)
  refine su_getR hC (ci := 10) (j := 4) (C := RX10) (T := TX10) (N := 45) rfl rfl (by decide) in_X10 wl_5_168 rfl dX10_readRings_1 (?_ : SdS X 4 [(0, 20)] [19] _)
  refine su_getFN hC (ci := 9) (j := 0) (C := RX9) (T := TX9) (N := 28) (host := "NarrowRingsModel") rfl rfl (by decide) in_X9 (by decide) rfl dX10_readRings_4 (?_ : SdS X 7 [(0, 20)] [0] _)
  refine su_if_le (tgt := 15) hC dX10_readRings_7 rfl (?_ : SdS X 15 [(0, 20)] [] _) (?_ : SdS X 10 [(0, 20)] [] _)
  · exact SdS.weak (by decide) (S_15)
  · refine su_aload_n hC 20 dX10_readRings_10 rfl (by decide) (by decide) (?_ : SdS X 11 [(0, 20)] [20] _)
    refine su_iconst hC dX10_readRings_11 ⟨by decide, by decide⟩ (?_ : SdS X 12 [(0, 20)] [0, 20] _)
    refine su_inv0v (τ := []) (τr := [0]) (ci := 10) (q := (RX10, TX10, 45)) hC WG (M_X10_wrong _) rfl rfl rfl rfl  rfl rfl wl_6_226 wl_6_228 wp_70 wl_1_10 wl_6_229 hd_X10_wrong (by rw [e3]; decide) (by decide) dX10_readRings_12 (?_ : SdS X 15 [(0, 20)] [] _)
    exact SdS.weak (by decide) (S_15)
theorem wl_6_213 : Cond.methodLink RX10 128 yX10_isWord ∈ WALL := tb6 (List.mem_of_getElem? (i := 213) rfl) rfl
theorem wl_6_215 : Cond.instanceMethod yX10_isWord ∈ WALL := tb6 (List.mem_of_getElem? (i := 215) rfl) rfl
theorem wp_68 : Cond.selects RX10 yX10_isWord yX10_isWord ∈ WALL := tbS (List.mem_of_getElem? (i := 68) rfl)
theorem wl_6_216 : Cond.code yX10_isWord cX10_isWord 2 (some .boolean) ∈ WALL := tb6 (List.mem_of_getElem? (i := 216) rfl) rfl
theorem hd_X10_isName : yX10_isName.cls ≠ "java/lang/invoke/MethodHandle" ∧ yX10_isName.cls ≠ "java/lang/invoke/VarHandle" ∧ (parseMethodDescriptor yX10_isName.desc).map (fun d => d.parameters.length) = some 0 := by decide +kernel
set_option maxRecDepth 100000 in
set_option maxHeartbeats 4000000 in
theorem M_X10_isName (l : Launch) : MtS l yX10_isName (Cond.code yX10_isName cX10_isName 1 (some .boolean) :: WALL) { frames := 6, cells := 0, slots := 0, locals := 129 } [20] (some 0) T_X10_isName := by
  refine MtS.mk (B := E_X10_isName) (by decide +kernel) (by decide) (fun _ _ _ hh => hh) ?_
  intro X Q e1 e2 e3 hC hN hT
  subst e1
  have hC : CF X cX10_isName RX10 WALL := hC
  have S_94 : SdS X 94 [(0, 20)] [0] (B_X10_isName_94 Q) := by
    unfold B_X10_isName_94
    exact su_zreturn hC hT dX10_isName_94
  have S_93 : SdS X 93 [(0, 20)] [] (B_X10_isName_93 Q) := by
    unfold B_X10_isName_93
    refine su_iconst hC dX10_isName_93 ⟨by decide, by decide⟩ (?_ : SdS X 94 [(0, 20)] [0] _)
    exact SdS.weak (by decide) (S_94)
  refine (?_ : SdS X 0 [(0, 20)] [] (E_X10_isName Q))
  unfold E_X10_isName
  refine su_aload_n hC 20 dX10_isName_0 rfl (by decide) (by decide) (?_ : SdS X 1 [(0, 20)] [20] _)
  refine su_getF hC (ci := 10) (j := 9) (C := RX10) (T := TX10) (N := 45) rfl rfl (by decide) in_X10 wl_5_173 rfl dX10_isName_1 (?_ : SdS X 4 [(0, 20)] [0] _)
  refine su_iconst hC dX10_isName_4 ⟨by decide, by decide⟩ (?_ : SdS X 5 [(0, 20)] [0, 0] _)
  refine su_icmp_ne (tgt := 93) hC dX10_isName_5 rfl (?_ : SdS X 93 [(0, 20)] [] _) (?_ : SdS X 8 [(0, 20)] [] _)
  · exact SdS.weak (by decide) (S_93)
  · refine su_aload_n hC 20 dX10_isName_8 rfl (by decide) (by decide) (?_ : SdS X 9 [(0, 20)] [20] _)
    refine su_ldcS hC (tx0 := "rings") (i := 0) rfl (by decide) (by decide) dX10_isName_9 (?_ : SdS X 11 [(0, 20)] [5, 20] _)
    refine su_inv0 (τ := []) (τr := [5]) (ci := 10) (q := (RX10, TX10, 45)) hC WG (M_X10_isWord _) rfl rfl rfl rfl  rfl rfl wl_6_213 wl_6_215 wp_68 wl_1_10 wl_6_216 hd_X10_isWord (by rw [e3]; decide) (by decide) dX10_isName_11 (?_ : SdS X 14 [(0, 20)] [0] _)
    refine su_if_ne (tgt := 93) hC dX10_isName_14 rfl (?_ : SdS X 93 [(0, 20)] [] _) (?_ : SdS X 17 [(0, 20)] [] _)
    · exact SdS.weak (by decide) (S_93)
    · refine su_aload_n hC 20 dX10_isName_17 rfl (by decide) (by decide) (?_ : SdS X 18 [(0, 20)] [20] _)
      refine su_ldcS hC (tx0 := "gate") (i := 1) rfl (by decide) (by decide) dX10_isName_18 (?_ : SdS X 20 [(0, 20)] [5, 20] _)
      refine su_inv0 (τ := []) (τr := [5]) (ci := 10) (q := (RX10, TX10, 45)) hC WG (M_X10_isWord _) rfl rfl rfl rfl  rfl rfl wl_6_213 wl_6_215 wp_68 wl_1_10 wl_6_216 hd_X10_isWord (by rw [e3]; decide) (by decide) dX10_isName_20 (?_ : SdS X 23 [(0, 20)] [0] _)
      refine su_if_ne (tgt := 93) hC dX10_isName_23 rfl (?_ : SdS X 93 [(0, 20)] [] _) (?_ : SdS X 26 [(0, 20)] [] _)
      · exact SdS.weak (by decide) (S_93)
      · refine su_aload_n hC 20 dX10_isName_26 rfl (by decide) (by decide) (?_ : SdS X 27 [(0, 20)] [20] _)
        refine su_ldcS hC (tx0 := "cart") (i := 2) rfl (by decide) (by decide) dX10_isName_27 (?_ : SdS X 29 [(0, 20)] [5, 20] _)
        refine su_inv0 (τ := []) (τr := [5]) (ci := 10) (q := (RX10, TX10, 45)) hC WG (M_X10_isWord _) rfl rfl rfl rfl  rfl rfl wl_6_213 wl_6_215 wp_68 wl_1_10 wl_6_216 hd_X10_isWord (by rw [e3]; decide) (by decide) dX10_isName_29 (?_ : SdS X 32 [(0, 20)] [0] _)
        refine su_if_ne (tgt := 93) hC dX10_isName_32 rfl (?_ : SdS X 93 [(0, 20)] [] _) (?_ : SdS X 35 [(0, 20)] [] _)
        · exact SdS.weak (by decide) (S_93)
        · refine su_aload_n hC 20 dX10_isName_35 rfl (by decide) (by decide) (?_ : SdS X 36 [(0, 20)] [20] _)
          refine su_ldcS hC (tx0 := "store") (i := 3) rfl (by decide) (by decide) dX10_isName_36 (?_ : SdS X 38 [(0, 20)] [5, 20] _)
          refine su_inv0 (τ := []) (τr := [5]) (ci := 10) (q := (RX10, TX10, 45)) hC WG (M_X10_isWord _) rfl rfl rfl rfl  rfl rfl wl_6_213 wl_6_215 wp_68 wl_1_10 wl_6_216 hd_X10_isWord (by rw [e3]; decide) (by decide) dX10_isName_38 (?_ : SdS X 41 [(0, 20)] [0] _)
          refine su_if_ne (tgt := 93) hC dX10_isName_41 rfl (?_ : SdS X 93 [(0, 20)] [] _) (?_ : SdS X 44 [(0, 20)] [] _)
          · exact SdS.weak (by decide) (S_93)
          · refine su_aload_n hC 20 dX10_isName_44 rfl (by decide) (by decide) (?_ : SdS X 45 [(0, 20)] [20] _)
            refine su_ldcS hC (tx0 := "good") (i := 4) rfl (by decide) (by decide) dX10_isName_45 (?_ : SdS X 47 [(0, 20)] [5, 20] _)
            refine su_inv0 (τ := []) (τr := [5]) (ci := 10) (q := (RX10, TX10, 45)) hC WG (M_X10_isWord _) rfl rfl rfl rfl  rfl rfl wl_6_213 wl_6_215 wp_68 wl_1_10 wl_6_216 hd_X10_isWord (by rw [e3]; decide) (by decide) dX10_isName_47 (?_ : SdS X 50 [(0, 20)] [0] _)
            refine su_if_ne (tgt := 93) hC dX10_isName_50 rfl (?_ : SdS X 93 [(0, 20)] [] _) (?_ : SdS X 53 [(0, 20)] [] _)
            · exact SdS.weak (by decide) (S_93)
            · refine su_aload_n hC 20 dX10_isName_53 rfl (by decide) (by decide) (?_ : SdS X 54 [(0, 20)] [20] _)
              refine su_ldcS hC (tx0 := "order") (i := 5) rfl (by decide) (by decide) dX10_isName_54 (?_ : SdS X 56 [(0, 20)] [5, 20] _)
              refine su_inv0 (τ := []) (τr := [5]) (ci := 10) (q := (RX10, TX10, 45)) hC WG (M_X10_isWord _) rfl rfl rfl rfl  rfl rfl wl_6_213 wl_6_215 wp_68 wl_1_10 wl_6_216 hd_X10_isWord (by rw [e3]; decide) (by decide) dX10_isName_56 (?_ : SdS X 59 [(0, 20)] [0] _)
              refine su_if_ne (tgt := 93) hC dX10_isName_59 rfl (?_ : SdS X 93 [(0, 20)] [] _) (?_ : SdS X 62 [(0, 20)] [] _)
              · exact SdS.weak (by decide) (S_93)
              · refine su_aload_n hC 20 dX10_isName_62 rfl (by decide) (by decide) (?_ : SdS X 63 [(0, 20)] [20] _)
                refine su_ldcS hC (tx0 := "parts") (i := 6) rfl (by decide) (by decide) dX10_isName_63 (?_ : SdS X 65 [(0, 20)] [5, 20] _)
                refine su_inv0 (τ := []) (τr := [5]) (ci := 10) (q := (RX10, TX10, 45)) hC WG (M_X10_isWord _) rfl rfl rfl rfl  rfl rfl wl_6_213 wl_6_215 wp_68 wl_1_10 wl_6_216 hd_X10_isWord (by rw [e3]; decide) (by decide) dX10_isName_65 (?_ : SdS X 68 [(0, 20)] [0] _)
                refine su_if_ne (tgt := 93) hC dX10_isName_68 rfl (?_ : SdS X 93 [(0, 20)] [] _) (?_ : SdS X 71 [(0, 20)] [] _)
                · exact SdS.weak (by decide) (S_93)
                · refine su_aload_n hC 20 dX10_isName_71 rfl (by decide) (by decide) (?_ : SdS X 72 [(0, 20)] [20] _)
                  refine su_ldcS hC (tx0 := "tilts") (i := 7) rfl (by decide) (by decide) dX10_isName_72 (?_ : SdS X 74 [(0, 20)] [5, 20] _)
                  refine su_inv0 (τ := []) (τr := [5]) (ci := 10) (q := (RX10, TX10, 45)) hC WG (M_X10_isWord _) rfl rfl rfl rfl  rfl rfl wl_6_213 wl_6_215 wp_68 wl_1_10 wl_6_216 hd_X10_isWord (by rw [e3]; decide) (by decide) dX10_isName_74 (?_ : SdS X 77 [(0, 20)] [0] _)
                  refine su_if_ne (tgt := 93) hC dX10_isName_77 rfl (?_ : SdS X 93 [(0, 20)] [] _) (?_ : SdS X 80 [(0, 20)] [] _)
                  · exact SdS.weak (by decide) (S_93)
                  · refine su_aload_n hC 20 dX10_isName_80 rfl (by decide) (by decide) (?_ : SdS X 81 [(0, 20)] [20] _)
                    refine su_ldcS hC (tx0 := "holy") (i := 8) rfl (by decide) (by decide) dX10_isName_81 (?_ : SdS X 83 [(0, 20)] [5, 20] _)
                    refine su_inv0 (τ := []) (τr := [5]) (ci := 10) (q := (RX10, TX10, 45)) hC WG (M_X10_isWord _) rfl rfl rfl rfl  rfl rfl wl_6_213 wl_6_215 wp_68 wl_1_10 wl_6_216 hd_X10_isWord (by rw [e3]; decide) (by decide) dX10_isName_83 (?_ : SdS X 86 [(0, 20)] [0] _)
                    refine su_if_ne (tgt := 93) hC dX10_isName_86 rfl (?_ : SdS X 93 [(0, 20)] [] _) (?_ : SdS X 89 [(0, 20)] [] _)
                    · exact SdS.weak (by decide) (S_93)
                    · refine su_iconst hC dX10_isName_89 ⟨by decide, by decide⟩ (?_ : SdS X 90 [(0, 20)] [0] _)
                      refine su_goto (tgt := 94) hC dX10_isName_90 rfl (?_ : SdS X 94 [(0, 20)] [0] _)
                      exact SdS.weak (by decide) (S_94)
theorem wl_6_87 : Cond.fieldLink RX9 80 "NarrowRingsModel$City" "names" "I" ∈ WALL := tb6 (List.mem_of_getElem? (i := 87) rfl) rfl
theorem hd_X9_find : yX9_find.cls ≠ "java/lang/invoke/MethodHandle" ∧ yX9_find.cls ≠ "java/lang/invoke/VarHandle" ∧ (parseMethodDescriptor yX9_find.desc).map (fun d => d.parameters.length) = some 1 := by decide +kernel
set_option maxRecDepth 100000 in
set_option maxHeartbeats 4000000 in
theorem M_X9_find (l : Launch) : MtS l yX9_find (Cond.code yX9_find cX9_find 4 (some .int) :: WALL) { frames := 0, cells := 0, slots := 0, locals := 0 } [19, 1] (some 0) T_X9_find := by
  refine MtS.mk (B := E_X9_find) (by decide +kernel) (by decide) (fun _ _ _ hh => hh) ?_
  intro X Q e1 e2 e3 hC hN hT
  subst e1
  have hC : CF X cX9_find RX9 WALL := hC
  have S_2 : SdS X 2 [(0, 19), (1, 1), (3, 0)] [] (L_X9_find_2 Q) := by
    unfold L_X9_find_2
    refine SdS.loop (fun k2 h2 => ?_)
    refine su_iload_n hC dX9_find_2 rfl (by decide) (?_ : SdS X 3 [(0, 19), (1, 1), (3, 0)] [0] _)
    refine su_aload_n hC 19 dX9_find_3 rfl (by decide) (by decide) (?_ : SdS X 4 [(0, 19), (1, 1), (3, 0)] [19, 0] _)
    refine su_getF hC (ci := 9) (j := 5) (C := RX9) (T := TX9) (N := 28) rfl rfl (by decide) in_X9 wl_6_87 rfl dX9_find_4 (?_ : SdS X 7 [(0, 19), (1, 1), (3, 0)] [0, 0] _)
    refine su_icmp_ge (tgt := 29) hC dX9_find_7 rfl (?_ : SdS X 29 [(0, 19), (1, 1), (3, 0)] [] _) (?_ : SdS X 10 [(0, 19), (1, 1), (3, 0)] [] _)
    · refine su_iconst hC dX9_find_29 ⟨by decide, by decide⟩ (?_ : SdS X 30 [(0, 19), (1, 1), (3, 0)] [0] _)
      exact su_ireturn hC hT dX9_find_30
    · refine su_aload_n hC 19 dX9_find_10 rfl (by decide) (by decide) (?_ : SdS X 11 [(0, 19), (1, 1), (3, 0)] [19] _)
      refine su_getR hC (ci := 9) (j := 26) (C := RX9) (T := TX9) (N := 28) rfl rfl (by decide) in_X9 wl_6_128 rfl dX9_find_11 (?_ : SdS X 14 [(0, 19), (1, 1), (3, 0)] [101] _)
      refine su_iload_n hC dX9_find_14 rfl (by decide) (?_ : SdS X 15 [(0, 19), (1, 1), (3, 0)] [0, 101] _)
      refine su_laload hC dX9_find_15 (?_ : SdS X 16 [(0, 19), (1, 1), (3, 0)] [1] _)
      refine su_lload_n hC dX9_find_16 rfl (by decide) (?_ : SdS X 17 [(0, 19), (1, 1), (3, 0)] [1, 1] _)
      refine su_lcmp hC dX9_find_17 (?_ : SdS X 18 [(0, 19), (1, 1), (3, 0)] [0] _)
      refine su_if_ne (tgt := 23) hC dX9_find_18 rfl (?_ : SdS X 23 [(0, 19), (1, 1), (3, 0)] [] _) (?_ : SdS X 21 [(0, 19), (1, 1), (3, 0)] [] _)
      · refine su_iinc (Γ' := [(0, 19), (1, 1), (3, 0)]) hC dX9_find_23 (by decide) (by rw [e2]; decide) (by decide) (?_ : SdS X 26 [(0, 19), (1, 1), (3, 0)] [] _)
        refine su_goto (tgt := 2) hC dX9_find_26 rfl (?_ : SdS X 2 [(0, 19), (1, 1), (3, 0)] [] _)
        exact SdS.weak (by decide) h2
      · refine su_iload_n hC dX9_find_21 rfl (by decide) (?_ : SdS X 22 [(0, 19), (1, 1), (3, 0)] [0] _)
        exact su_ireturn hC hT dX9_find_22
  refine (?_ : SdS X 0 [(0, 19), (1, 1)] [] (E_X9_find Q))
  unfold E_X9_find
  refine su_iconst hC dX9_find_0 ⟨by decide, by decide⟩ (?_ : SdS X 1 [(0, 19), (1, 1)] [0] _)
  refine su_istore_n (Γ' := [(0, 19), (1, 1), (3, 0)]) hC dX9_find_1 rfl (by rw [e2]; decide) (by decide) (?_ : SdS X 2 [(0, 19), (1, 1), (3, 0)] [] _)
  exact SdS.weak (by decide) (S_2)
theorem wl_7_18 : Cond.methodLink RX10 178 yX10_isName ∈ WALL := tb7 (List.mem_of_getElem? (i := 18) rfl) rfl
theorem wl_7_20 : Cond.instanceMethod yX10_isName ∈ WALL := tb7 (List.mem_of_getElem? (i := 20) rfl) rfl
theorem wp_77 : Cond.selects RX10 yX10_isName yX10_isName ∈ WALL := tbS (List.mem_of_getElem? (i := 77) rfl)
theorem wl_7_21 : Cond.code yX10_isName cX10_isName 1 (some .boolean) ∈ WALL := tb7 (List.mem_of_getElem? (i := 21) rfl) rfl
theorem wl_7_29 : Cond.methodLink RX10 182 yX9_find ∈ WALL := tb7 (List.mem_of_getElem? (i := 29) rfl) rfl
theorem wl_7_30 : Cond.instanceMethod yX9_find ∈ WALL := tb7 (List.mem_of_getElem? (i := 30) rfl) rfl
theorem wl_7_31 : Cond.selects RX9 yX9_find yX9_find ∈ WALL := tb7 (List.mem_of_getElem? (i := 31) rfl) rfl
theorem wl_1_17 : Cond.initialized RX9 ∈ WALL := tb1 (List.mem_of_getElem? (i := 17) rfl) rfl
theorem wl_7_32 : Cond.code yX9_find cX9_find 4 (some .int) ∈ WALL := tb7 (List.mem_of_getElem? (i := 32) rfl) rfl
theorem hd_X10_readFresh : yX10_readFresh.cls ≠ "java/lang/invoke/MethodHandle" ∧ yX10_readFresh.cls ≠ "java/lang/invoke/VarHandle" ∧ (parseMethodDescriptor yX10_readFresh.desc).map (fun d => d.parameters.length) = some 0 := by decide +kernel
set_option maxRecDepth 100000 in
set_option maxHeartbeats 4000000 in
theorem M_X10_readFresh (l : Launch) : MtS l yX10_readFresh (Cond.code yX10_readFresh cX10_readFresh 3 (some .long) :: WALL) { frames := 7, cells := 0, slots := 0, locals := 149 } [20] (some 1) T_X10_readFresh := by
  refine MtS.mk (B := E_X10_readFresh) (by decide +kernel) (by decide) (fun _ _ _ hh => hh) ?_
  intro X Q e1 e2 e3 hC hN hT
  subst e1
  have hC : CF X cX10_readFresh RX10 WALL := hC
  have S_32 : SdS X 32 [(0, 20)] [] (B_X10_readFresh_32 Q) := by
    unfold B_X10_readFresh_32
    refine su_aload_n hC 20 dX10_readFresh_32 rfl (by decide) (by decide) (?_ : SdS X 33 [(0, 20)] [20] _)
    refine su_getF hC (ci := 10) (j := 15) (C := RX10) (T := TX10) (N := 45) rfl rfl (by decide) in_X10 wl_5_179 rfl dX10_readFresh_33 (?_ : SdS X 36 [(0, 20)] [1] _)
    refine su_lstore_n (Γ' := [(0, 20), (1, 1)]) hC dX10_readFresh_36 rfl (by rw [e2]; decide) (by decide) (?_ : SdS X 37 [(0, 20), (1, 1)] [] _)
    refine su_aload_n hC 20 dX10_readFresh_37 rfl (by decide) (by decide) (?_ : SdS X 38 [(0, 20), (1, 1)] [20] _)
    refine su_inv0v (τ := []) (τr := []) (ci := 10) (q := (RX10, TX10, 45)) hC WG (M_X10_goesOn _) rfl rfl rfl rfl  rfl rfl wl_6_189 wl_6_191 wp_64 wl_1_10 wl_6_192 hd_X10_goesOn (by rw [e3]; decide) (by decide) dX10_readFresh_38 (?_ : SdS X 41 [(0, 20), (1, 1)] [] _)
    refine su_lload_n hC dX10_readFresh_41 rfl (by decide) (?_ : SdS X 42 [(0, 20), (1, 1)] [1] _)
    exact su_lreturn hC hT dX10_readFresh_42
  have S_12 : SdS X 12 [(0, 20)] [] (B_X10_readFresh_12 Q) := by
    unfold B_X10_readFresh_12
    refine su_aload_n hC 20 dX10_readFresh_12 rfl (by decide) (by decide) (?_ : SdS X 13 [(0, 20)] [20] _)
    refine su_getR hC (ci := 10) (j := 4) (C := RX10) (T := TX10) (N := 45) rfl rfl (by decide) in_X10 wl_5_168 rfl dX10_readFresh_13 (?_ : SdS X 16 [(0, 20)] [19] _)
    refine su_aload_n hC 20 dX10_readFresh_16 rfl (by decide) (by decide) (?_ : SdS X 17 [(0, 20)] [20, 19] _)
    refine su_getF hC (ci := 10) (j := 15) (C := RX10) (T := TX10) (N := 45) rfl rfl (by decide) in_X10 wl_5_179 rfl dX10_readFresh_17 (?_ : SdS X 20 [(0, 20)] [1, 19] _)
    refine su_inv0 (τ := []) (τr := [1]) (ci := 9) (q := (RX9, TX9, 28)) hC WG (M_X9_find _) rfl rfl rfl rfl  rfl rfl wl_7_29 wl_7_30 wl_7_31 wl_1_17 wl_7_32 hd_X9_find (by rw [e3]; decide) (by decide) dX10_readFresh_20 (?_ : SdS X 23 [(0, 20)] [0] _)
    refine su_iconst hC dX10_readFresh_23 ⟨by decide, by decide⟩ (?_ : SdS X 24 [(0, 20)] [0, 0] _)
    refine su_icmp_eq (tgt := 32) hC dX10_readFresh_24 rfl (?_ : SdS X 32 [(0, 20)] [] _) (?_ : SdS X 27 [(0, 20)] [] _)
    · exact SdS.weak (by decide) (S_32)
    · refine su_aload_n hC 20 dX10_readFresh_27 rfl (by decide) (by decide) (?_ : SdS X 28 [(0, 20)] [20] _)
      refine su_iconst hC dX10_readFresh_28 ⟨by decide, by decide⟩ (?_ : SdS X 29 [(0, 20)] [0, 20] _)
      refine su_inv0v (τ := []) (τr := [0]) (ci := 10) (q := (RX10, TX10, 45)) hC WG (M_X10_wrong _) rfl rfl rfl rfl  rfl rfl wl_6_226 wl_6_228 wp_70 wl_1_10 wl_6_229 hd_X10_wrong (by rw [e3]; decide) (by decide) dX10_readFresh_29 (?_ : SdS X 32 [(0, 20)] [] _)
      exact SdS.weak (by decide) (S_32)
  refine (?_ : SdS X 0 [(0, 20)] [] (E_X10_readFresh Q))
  unfold E_X10_readFresh
  refine su_aload_n hC 20 dX10_readFresh_0 rfl (by decide) (by decide) (?_ : SdS X 1 [(0, 20)] [20] _)
  refine su_inv0 (τ := []) (τr := []) (ci := 10) (q := (RX10, TX10, 45)) hC WG (M_X10_isName _) rfl rfl rfl rfl  rfl rfl wl_7_18 wl_7_20 wp_77 wl_1_10 wl_7_21 hd_X10_isName (by rw [e3]; decide) (by decide) dX10_readFresh_1 (?_ : SdS X 4 [(0, 20)] [0] _)
  refine su_if_ne (tgt := 12) hC dX10_readFresh_4 rfl (?_ : SdS X 12 [(0, 20)] [] _) (?_ : SdS X 7 [(0, 20)] [] _)
  · exact SdS.weak (by decide) (S_12)
  · refine su_aload_n hC 20 dX10_readFresh_7 rfl (by decide) (by decide) (?_ : SdS X 8 [(0, 20)] [20] _)
    refine su_iconst hC dX10_readFresh_8 ⟨by decide, by decide⟩ (?_ : SdS X 9 [(0, 20)] [0, 20] _)
    refine su_inv0v (τ := []) (τr := [0]) (ci := 10) (q := (RX10, TX10, 45)) hC WG (M_X10_wrong _) rfl rfl rfl rfl  rfl rfl wl_6_226 wl_6_228 wp_70 wl_1_10 wl_6_229 hd_X10_wrong (by rw [e3]; decide) (by decide) dX10_readFresh_9 (?_ : SdS X 12 [(0, 20)] [] _)
    exact SdS.weak (by decide) (S_12)
theorem hd_X10_needs : yX10_needs.cls ≠ "java/lang/invoke/MethodHandle" ∧ yX10_needs.cls ≠ "java/lang/invoke/VarHandle" ∧ (parseMethodDescriptor yX10_needs.desc).map (fun d => d.parameters.length) = some 1 := by decide +kernel
set_option maxRecDepth 100000 in
set_option maxHeartbeats 4000000 in
theorem M_X10_needs (l : Launch) : MtS l yX10_needs (Cond.code yX10_needs cX10_needs 2 none :: WALL) { frames := 6, cells := 0, slots := 0, locals := 129 } [20, 5] none T_X10_needs := by
  refine MtS.mk (B := E_X10_needs) (by decide +kernel) (by decide) (fun _ _ _ hh => hh) ?_
  intro X Q e1 e2 e3 hC hN hT
  subst e1
  have hC : CF X cX10_needs RX10 WALL := hC
  have S_13 : SdS X 13 [(0, 20), (1, 5)] [] (B_X10_needs_13 Q) := by
    unfold B_X10_needs_13
    refine su_aload_n hC 20 dX10_needs_13 rfl (by decide) (by decide) (?_ : SdS X 14 [(0, 20), (1, 5)] [20] _)
    refine su_inv0v (τ := []) (τr := []) (ci := 10) (q := (RX10, TX10, 45)) hC WG (M_X10_goesOn _) rfl rfl rfl rfl  rfl rfl wl_6_189 wl_6_191 wp_64 wl_1_10 wl_6_192 hd_X10_goesOn (by rw [e3]; decide) (by decide) dX10_needs_14 (?_ : SdS X 17 [(0, 20), (1, 5)] [] _)
    exact su_return hC hT dX10_needs_17
  refine (?_ : SdS X 0 [(0, 20), (1, 5)] [] (E_X10_needs Q))
  unfold E_X10_needs
  refine su_aload_n hC 20 dX10_needs_0 rfl (by decide) (by decide) (?_ : SdS X 1 [(0, 20), (1, 5)] [20] _)
  refine su_aload_n hC 5 dX10_needs_1 rfl (by decide) (by decide) (?_ : SdS X 2 [(0, 20), (1, 5)] [5, 20] _)
  refine su_inv0 (τ := []) (τr := [5]) (ci := 10) (q := (RX10, TX10, 45)) hC WG (M_X10_isWord _) rfl rfl rfl rfl  rfl rfl wl_6_213 wl_6_215 wp_68 wl_1_10 wl_6_216 hd_X10_isWord (by rw [e3]; decide) (by decide) dX10_needs_2 (?_ : SdS X 5 [(0, 20), (1, 5)] [0] _)
  refine su_if_ne (tgt := 13) hC dX10_needs_5 rfl (?_ : SdS X 13 [(0, 20), (1, 5)] [] _) (?_ : SdS X 8 [(0, 20), (1, 5)] [] _)
  · exact SdS.weak (by decide) (S_13)
  · refine su_aload_n hC 20 dX10_needs_8 rfl (by decide) (by decide) (?_ : SdS X 9 [(0, 20), (1, 5)] [20] _)
    refine su_iconst hC dX10_needs_9 ⟨by decide, by decide⟩ (?_ : SdS X 10 [(0, 20), (1, 5)] [0, 20] _)
    refine su_inv0v (τ := []) (τr := [0]) (ci := 10) (q := (RX10, TX10, 45)) hC WG (M_X10_wrong _) rfl rfl rfl rfl  rfl rfl wl_6_226 wl_6_228 wp_70 wl_1_10 wl_6_229 hd_X10_wrong (by rw [e3]; decide) (by decide) dX10_needs_10 (?_ : SdS X 13 [(0, 20), (1, 5)] [] _)
    exact SdS.weak (by decide) (S_13)
theorem wl_7_38 : Cond.methodLink RX10 147 yX10_needs ∈ WALL := tb7 (List.mem_of_getElem? (i := 38) rfl) rfl
theorem wl_7_40 : Cond.instanceMethod yX10_needs ∈ WALL := tb7 (List.mem_of_getElem? (i := 40) rfl) rfl
theorem wp_79 : Cond.selects RX10 yX10_needs yX10_needs ∈ WALL := tbS (List.mem_of_getElem? (i := 79) rfl)
theorem wl_7_41 : Cond.code yX10_needs cX10_needs 2 none ∈ WALL := tb7 (List.mem_of_getElem? (i := 41) rfl) rfl
theorem hd_X10_readPart : yX10_readPart.cls ≠ "java/lang/invoke/MethodHandle" ∧ yX10_readPart.cls ≠ "java/lang/invoke/VarHandle" ∧ (parseMethodDescriptor yX10_readPart.desc).map (fun d => d.parameters.length) = some 3 := by decide +kernel
set_option maxRecDepth 100000 in
set_option maxHeartbeats 4000000 in
theorem M_X10_readPart (l : Launch) : MtS l yX10_readPart (Cond.code yX10_readPart cX10_readPart 4 (some .int) :: WALL) { frames := 7, cells := 0, slots := 0, locals := 150 } [20, 5, 0, 0] (some 0) T_X10_readPart := by
  refine MtS.mk (B := E_X10_readPart) (by decide +kernel) (by decide) (fun _ _ _ hh => hh) ?_
  intro X Q e1 e2 e3 hC hN hT
  subst e1
  have hC : CF X cX10_readPart RX10 WALL := hC
  refine (?_ : SdS X 0 [(0, 20), (1, 5), (2, 0), (3, 0)] [] (E_X10_readPart Q))
  unfold E_X10_readPart
  refine su_aload_n hC 20 dX10_readPart_0 rfl (by decide) (by decide) (?_ : SdS X 1 [(0, 20), (1, 5), (2, 0), (3, 0)] [20] _)
  refine su_aload_n hC 5 dX10_readPart_1 rfl (by decide) (by decide) (?_ : SdS X 2 [(0, 20), (1, 5), (2, 0), (3, 0)] [5, 20] _)
  refine su_inv0v (τ := []) (τr := [5]) (ci := 10) (q := (RX10, TX10, 45)) hC WG (M_X10_needs _) rfl rfl rfl rfl  rfl rfl wl_7_38 wl_7_40 wp_79 wl_1_10 wl_7_41 hd_X10_needs (by rw [e3]; decide) (by decide) dX10_readPart_2 (?_ : SdS X 5 [(0, 20), (1, 5), (2, 0), (3, 0)] [] _)
  refine su_aload_n hC 20 dX10_readPart_5 rfl (by decide) (by decide) (?_ : SdS X 6 [(0, 20), (1, 5), (2, 0), (3, 0)] [20] _)
  refine su_iload_n hC dX10_readPart_6 rfl (by decide) (?_ : SdS X 7 [(0, 20), (1, 5), (2, 0), (3, 0)] [0, 20] _)
  refine su_iload_n hC dX10_readPart_7 rfl (by decide) (?_ : SdS X 8 [(0, 20), (1, 5), (2, 0), (3, 0)] [0, 0, 20] _)
  refine su_inv0 (τ := []) (τr := [0, 0]) (ci := 10) (q := (RX10, TX10, 45)) hC WG (M_X10_readWhole _) rfl rfl rfl rfl  rfl rfl wl_6_230 wl_6_232 wp_71 wl_1_10 wl_6_233 hd_X10_readWhole (by rw [e3]; decide) (by decide) dX10_readPart_8 (?_ : SdS X 11 [(0, 20), (1, 5), (2, 0), (3, 0)] [0] _)
  exact su_ireturn hC hT dX10_readPart_11
theorem hd_X9_adds : yX9_adds.cls ≠ "java/lang/invoke/MethodHandle" ∧ yX9_adds.cls ≠ "java/lang/invoke/VarHandle" ∧ (parseMethodDescriptor yX9_adds.desc).map (fun d => d.parameters.length) = some 2 := by decide +kernel
set_option maxRecDepth 100000 in
set_option maxHeartbeats 4000000 in
theorem M_X9_adds (l : Launch) : MtS l yX9_adds (Cond.code yX9_adds cX9_adds 4 none :: WALL) { frames := 0, cells := 0, slots := 0, locals := 0 } [19, 1, 0] none T_X9_adds := by
  refine MtS.mk (B := E_X9_adds) (by decide +kernel) (by decide) (fun _ _ _ hh => hh) ?_
  intro X Q e1 e2 e3 hC hN hT
  subst e1
  have hC : CF X cX9_adds RX9 WALL := hC
  refine (?_ : SdS X 0 [(0, 19), (1, 1), (3, 0)] [] (E_X9_adds Q))
  unfold E_X9_adds
  refine su_aload_n hC 19 dX9_adds_0 rfl (by decide) (by decide) (?_ : SdS X 1 [(0, 19), (1, 1), (3, 0)] [19] _)
  refine su_getR hC (ci := 9) (j := 26) (C := RX9) (T := TX9) (N := 28) rfl rfl (by decide) in_X9 wl_6_128 rfl dX9_adds_1 (?_ : SdS X 4 [(0, 19), (1, 1), (3, 0)] [101] _)
  refine su_aload_n hC 19 dX9_adds_4 rfl (by decide) (by decide) (?_ : SdS X 5 [(0, 19), (1, 1), (3, 0)] [19, 101] _)
  refine su_getF hC (ci := 9) (j := 5) (C := RX9) (T := TX9) (N := 28) rfl rfl (by decide) in_X9 wl_6_87 rfl dX9_adds_5 (?_ : SdS X 8 [(0, 19), (1, 1), (3, 0)] [0, 101] _)
  refine su_lload_n hC dX9_adds_8 rfl (by decide) (?_ : SdS X 9 [(0, 19), (1, 1), (3, 0)] [1, 0, 101] _)
  refine su_lastore hC dX9_adds_9 (?_ : SdS X 10 [(0, 19), (1, 1), (3, 0)] [] _)
  refine su_aload_n hC 19 dX9_adds_10 rfl (by decide) (by decide) (?_ : SdS X 11 [(0, 19), (1, 1), (3, 0)] [19] _)
  refine su_getR hC (ci := 9) (j := 27) (C := RX9) (T := TX9) (N := 28) rfl rfl (by decide) in_X9 wl_6_129 rfl dX9_adds_11 (?_ : SdS X 14 [(0, 19), (1, 1), (3, 0)] [100] _)
  refine su_aload_n hC 19 dX9_adds_14 rfl (by decide) (by decide) (?_ : SdS X 15 [(0, 19), (1, 1), (3, 0)] [19, 100] _)
  refine su_getF hC (ci := 9) (j := 5) (C := RX9) (T := TX9) (N := 28) rfl rfl (by decide) in_X9 wl_6_87 rfl dX9_adds_15 (?_ : SdS X 18 [(0, 19), (1, 1), (3, 0)] [0, 100] _)
  refine su_iload_n hC dX9_adds_18 rfl (by decide) (?_ : SdS X 19 [(0, 19), (1, 1), (3, 0)] [0, 0, 100] _)
  refine su_iastore hC dX9_adds_19 (?_ : SdS X 20 [(0, 19), (1, 1), (3, 0)] [] _)
  refine su_aload_n hC 19 dX9_adds_20 rfl (by decide) (by decide) (?_ : SdS X 21 [(0, 19), (1, 1), (3, 0)] [19] _)
  refine su_dup hC (by decide) dX9_adds_21 (?_ : SdS X 22 [(0, 19), (1, 1), (3, 0)] [19, 19] _)
  refine su_getF hC (ci := 9) (j := 5) (C := RX9) (T := TX9) (N := 28) rfl rfl (by decide) in_X9 wl_6_87 rfl dX9_adds_22 (?_ : SdS X 25 [(0, 19), (1, 1), (3, 0)] [0, 19] _)
  refine su_iconst hC dX9_adds_25 ⟨by decide, by decide⟩ (?_ : SdS X 26 [(0, 19), (1, 1), (3, 0)] [0, 0, 19] _)
  refine su_iadd hC dX9_adds_26 (?_ : SdS X 27 [(0, 19), (1, 1), (3, 0)] [0, 19] _)
  refine su_putF hC (ci := 9) (j := 5) (C := RX9) (T := TX9) (N := 28) tyX9 tyX9_ok nmX9 rfl rfl (by decide) in_X9 rfl rfl wl_6_87 rfl dX9_adds_27 (?_ : SdS X 30 [(0, 19), (1, 1), (3, 0)] [] _)
  exact su_return hC hT dX9_adds_30
theorem hd_X10_sets : yX10_sets.cls ≠ "java/lang/invoke/MethodHandle" ∧ yX10_sets.cls ≠ "java/lang/invoke/VarHandle" ∧ (parseMethodDescriptor yX10_sets.desc).map (fun d => d.parameters.length) = some 8 := by decide +kernel
set_option maxRecDepth 100000 in
set_option maxHeartbeats 4000000 in
theorem M_X10_sets (l : Launch) : MtS l yX10_sets (Cond.code yX10_sets cX10_sets 9 none :: WALL) { frames := 0, cells := 0, slots := 0, locals := 0 } [100, 0, 0, 0, 0, 0, 0, 0] none T_X10_sets := by
  refine MtS.mk (B := E_X10_sets) (by decide +kernel) (by decide) (fun _ _ _ hh => hh) ?_
  intro X Q e1 e2 e3 hC hN hT
  subst e1
  have hC : CF X cX10_sets RX10 WALL := hC
  refine (?_ : SdS X 0 [(0, 100), (1, 0), (2, 0), (3, 0), (4, 0), (5, 0), (6, 0), (7, 0)] [] (E_X10_sets Q))
  unfold E_X10_sets
  refine su_bipush hC dX10_sets_0 (by decide) (?_ : SdS X 2 [(0, 100), (1, 0), (2, 0), (3, 0), (4, 0), (5, 0), (6, 0), (7, 0)] [0] _)
  refine su_iload_n hC dX10_sets_2 rfl (by decide) (?_ : SdS X 3 [(0, 100), (1, 0), (2, 0), (3, 0), (4, 0), (5, 0), (6, 0), (7, 0)] [0, 0] _)
  refine su_imul hC dX10_sets_3 (?_ : SdS X 4 [(0, 100), (1, 0), (2, 0), (3, 0), (4, 0), (5, 0), (6, 0), (7, 0)] [0] _)
  refine su_istore (Γ' := [(0, 100), (1, 0), (2, 0), (3, 0), (4, 0), (5, 0), (6, 0), (7, 0), (8, 0)]) hC dX10_sets_4 (by rw [e2]; decide) (by decide) (?_ : SdS X 6 [(0, 100), (1, 0), (2, 0), (3, 0), (4, 0), (5, 0), (6, 0), (7, 0), (8, 0)] [] _)
  refine su_aload_n hC 100 dX10_sets_6 rfl (by decide) (by decide) (?_ : SdS X 7 [(0, 100), (1, 0), (2, 0), (3, 0), (4, 0), (5, 0), (6, 0), (7, 0), (8, 0)] [100] _)
  refine su_iload hC dX10_sets_7 (by decide) (?_ : SdS X 9 [(0, 100), (1, 0), (2, 0), (3, 0), (4, 0), (5, 0), (6, 0), (7, 0), (8, 0)] [0, 100] _)
  refine su_iconst hC dX10_sets_9 ⟨by decide, by decide⟩ (?_ : SdS X 10 [(0, 100), (1, 0), (2, 0), (3, 0), (4, 0), (5, 0), (6, 0), (7, 0), (8, 0)] [0, 0, 100] _)
  refine su_iadd hC dX10_sets_10 (?_ : SdS X 11 [(0, 100), (1, 0), (2, 0), (3, 0), (4, 0), (5, 0), (6, 0), (7, 0), (8, 0)] [0, 100] _)
  refine su_iload_n hC dX10_sets_11 rfl (by decide) (?_ : SdS X 12 [(0, 100), (1, 0), (2, 0), (3, 0), (4, 0), (5, 0), (6, 0), (7, 0), (8, 0)] [0, 0, 100] _)
  refine su_iastore hC dX10_sets_12 (?_ : SdS X 13 [(0, 100), (1, 0), (2, 0), (3, 0), (4, 0), (5, 0), (6, 0), (7, 0), (8, 0)] [] _)
  refine su_aload_n hC 100 dX10_sets_13 rfl (by decide) (by decide) (?_ : SdS X 14 [(0, 100), (1, 0), (2, 0), (3, 0), (4, 0), (5, 0), (6, 0), (7, 0), (8, 0)] [100] _)
  refine su_iload hC dX10_sets_14 (by decide) (?_ : SdS X 16 [(0, 100), (1, 0), (2, 0), (3, 0), (4, 0), (5, 0), (6, 0), (7, 0), (8, 0)] [0, 100] _)
  refine su_iconst hC dX10_sets_16 ⟨by decide, by decide⟩ (?_ : SdS X 17 [(0, 100), (1, 0), (2, 0), (3, 0), (4, 0), (5, 0), (6, 0), (7, 0), (8, 0)] [0, 0, 100] _)
  refine su_iadd hC dX10_sets_17 (?_ : SdS X 18 [(0, 100), (1, 0), (2, 0), (3, 0), (4, 0), (5, 0), (6, 0), (7, 0), (8, 0)] [0, 100] _)
  refine su_iload_n hC dX10_sets_18 rfl (by decide) (?_ : SdS X 19 [(0, 100), (1, 0), (2, 0), (3, 0), (4, 0), (5, 0), (6, 0), (7, 0), (8, 0)] [0, 0, 100] _)
  refine su_iastore hC dX10_sets_19 (?_ : SdS X 20 [(0, 100), (1, 0), (2, 0), (3, 0), (4, 0), (5, 0), (6, 0), (7, 0), (8, 0)] [] _)
  refine su_aload_n hC 100 dX10_sets_20 rfl (by decide) (by decide) (?_ : SdS X 21 [(0, 100), (1, 0), (2, 0), (3, 0), (4, 0), (5, 0), (6, 0), (7, 0), (8, 0)] [100] _)
  refine su_iload hC dX10_sets_21 (by decide) (?_ : SdS X 23 [(0, 100), (1, 0), (2, 0), (3, 0), (4, 0), (5, 0), (6, 0), (7, 0), (8, 0)] [0, 100] _)
  refine su_iconst hC dX10_sets_23 ⟨by decide, by decide⟩ (?_ : SdS X 24 [(0, 100), (1, 0), (2, 0), (3, 0), (4, 0), (5, 0), (6, 0), (7, 0), (8, 0)] [0, 0, 100] _)
  refine su_iadd hC dX10_sets_24 (?_ : SdS X 25 [(0, 100), (1, 0), (2, 0), (3, 0), (4, 0), (5, 0), (6, 0), (7, 0), (8, 0)] [0, 100] _)
  refine su_iload hC dX10_sets_25 (by decide) (?_ : SdS X 27 [(0, 100), (1, 0), (2, 0), (3, 0), (4, 0), (5, 0), (6, 0), (7, 0), (8, 0)] [0, 0, 100] _)
  refine su_iastore hC dX10_sets_27 (?_ : SdS X 28 [(0, 100), (1, 0), (2, 0), (3, 0), (4, 0), (5, 0), (6, 0), (7, 0), (8, 0)] [] _)
  refine su_aload_n hC 100 dX10_sets_28 rfl (by decide) (by decide) (?_ : SdS X 29 [(0, 100), (1, 0), (2, 0), (3, 0), (4, 0), (5, 0), (6, 0), (7, 0), (8, 0)] [100] _)
  refine su_iload hC dX10_sets_29 (by decide) (?_ : SdS X 31 [(0, 100), (1, 0), (2, 0), (3, 0), (4, 0), (5, 0), (6, 0), (7, 0), (8, 0)] [0, 100] _)
  refine su_iconst hC dX10_sets_31 ⟨by decide, by decide⟩ (?_ : SdS X 32 [(0, 100), (1, 0), (2, 0), (3, 0), (4, 0), (5, 0), (6, 0), (7, 0), (8, 0)] [0, 0, 100] _)
  refine su_iadd hC dX10_sets_32 (?_ : SdS X 33 [(0, 100), (1, 0), (2, 0), (3, 0), (4, 0), (5, 0), (6, 0), (7, 0), (8, 0)] [0, 100] _)
  refine su_iload hC dX10_sets_33 (by decide) (?_ : SdS X 35 [(0, 100), (1, 0), (2, 0), (3, 0), (4, 0), (5, 0), (6, 0), (7, 0), (8, 0)] [0, 0, 100] _)
  refine su_iastore hC dX10_sets_35 (?_ : SdS X 36 [(0, 100), (1, 0), (2, 0), (3, 0), (4, 0), (5, 0), (6, 0), (7, 0), (8, 0)] [] _)
  refine su_aload_n hC 100 dX10_sets_36 rfl (by decide) (by decide) (?_ : SdS X 37 [(0, 100), (1, 0), (2, 0), (3, 0), (4, 0), (5, 0), (6, 0), (7, 0), (8, 0)] [100] _)
  refine su_iload hC dX10_sets_37 (by decide) (?_ : SdS X 39 [(0, 100), (1, 0), (2, 0), (3, 0), (4, 0), (5, 0), (6, 0), (7, 0), (8, 0)] [0, 100] _)
  refine su_iconst hC dX10_sets_39 ⟨by decide, by decide⟩ (?_ : SdS X 40 [(0, 100), (1, 0), (2, 0), (3, 0), (4, 0), (5, 0), (6, 0), (7, 0), (8, 0)] [0, 0, 100] _)
  refine su_iadd hC dX10_sets_40 (?_ : SdS X 41 [(0, 100), (1, 0), (2, 0), (3, 0), (4, 0), (5, 0), (6, 0), (7, 0), (8, 0)] [0, 100] _)
  refine su_iload hC dX10_sets_41 (by decide) (?_ : SdS X 43 [(0, 100), (1, 0), (2, 0), (3, 0), (4, 0), (5, 0), (6, 0), (7, 0), (8, 0)] [0, 0, 100] _)
  refine su_iastore hC dX10_sets_43 (?_ : SdS X 44 [(0, 100), (1, 0), (2, 0), (3, 0), (4, 0), (5, 0), (6, 0), (7, 0), (8, 0)] [] _)
  refine su_aload_n hC 100 dX10_sets_44 rfl (by decide) (by decide) (?_ : SdS X 45 [(0, 100), (1, 0), (2, 0), (3, 0), (4, 0), (5, 0), (6, 0), (7, 0), (8, 0)] [100] _)
  refine su_iload hC dX10_sets_45 (by decide) (?_ : SdS X 47 [(0, 100), (1, 0), (2, 0), (3, 0), (4, 0), (5, 0), (6, 0), (7, 0), (8, 0)] [0, 100] _)
  refine su_iconst hC dX10_sets_47 ⟨by decide, by decide⟩ (?_ : SdS X 48 [(0, 100), (1, 0), (2, 0), (3, 0), (4, 0), (5, 0), (6, 0), (7, 0), (8, 0)] [0, 0, 100] _)
  refine su_iadd hC dX10_sets_48 (?_ : SdS X 49 [(0, 100), (1, 0), (2, 0), (3, 0), (4, 0), (5, 0), (6, 0), (7, 0), (8, 0)] [0, 100] _)
  refine su_iload hC dX10_sets_49 (by decide) (?_ : SdS X 51 [(0, 100), (1, 0), (2, 0), (3, 0), (4, 0), (5, 0), (6, 0), (7, 0), (8, 0)] [0, 0, 100] _)
  refine su_iastore hC dX10_sets_51 (?_ : SdS X 52 [(0, 100), (1, 0), (2, 0), (3, 0), (4, 0), (5, 0), (6, 0), (7, 0), (8, 0)] [] _)
  refine su_aload_n hC 100 dX10_sets_52 rfl (by decide) (by decide) (?_ : SdS X 53 [(0, 100), (1, 0), (2, 0), (3, 0), (4, 0), (5, 0), (6, 0), (7, 0), (8, 0)] [100] _)
  refine su_iload hC dX10_sets_53 (by decide) (?_ : SdS X 55 [(0, 100), (1, 0), (2, 0), (3, 0), (4, 0), (5, 0), (6, 0), (7, 0), (8, 0)] [0, 100] _)
  refine su_bipush hC dX10_sets_55 (by decide) (?_ : SdS X 57 [(0, 100), (1, 0), (2, 0), (3, 0), (4, 0), (5, 0), (6, 0), (7, 0), (8, 0)] [0, 0, 100] _)
  refine su_iadd hC dX10_sets_57 (?_ : SdS X 58 [(0, 100), (1, 0), (2, 0), (3, 0), (4, 0), (5, 0), (6, 0), (7, 0), (8, 0)] [0, 100] _)
  refine su_iconst hC dX10_sets_58 ⟨by decide, by decide⟩ (?_ : SdS X 59 [(0, 100), (1, 0), (2, 0), (3, 0), (4, 0), (5, 0), (6, 0), (7, 0), (8, 0)] [0, 0, 100] _)
  refine su_iastore hC dX10_sets_59 (?_ : SdS X 60 [(0, 100), (1, 0), (2, 0), (3, 0), (4, 0), (5, 0), (6, 0), (7, 0), (8, 0)] [] _)
  exact su_return hC hT dX10_sets_60
theorem wl_7_10 : Cond.methodLink RX10 216 yX10_begins ∈ WALL := tb7 (List.mem_of_getElem? (i := 10) rfl) rfl
theorem wl_7_12 : Cond.instanceMethod yX10_begins ∈ WALL := tb7 (List.mem_of_getElem? (i := 12) rfl) rfl
theorem wp_75 : Cond.selects RX10 yX10_begins yX10_begins ∈ WALL := tbS (List.mem_of_getElem? (i := 75) rfl)
theorem wl_7_13 : Cond.code yX10_begins cX10_begins 4 none ∈ WALL := tb7 (List.mem_of_getElem? (i := 13) rfl) rfl
theorem wl_7_14 : Cond.methodLink RX10 220 yX10_readFresh ∈ WALL := tb7 (List.mem_of_getElem? (i := 14) rfl) rfl
theorem wl_7_16 : Cond.instanceMethod yX10_readFresh ∈ WALL := tb7 (List.mem_of_getElem? (i := 16) rfl) rfl
theorem wp_76 : Cond.selects RX10 yX10_readFresh yX10_readFresh ∈ WALL := tbS (List.mem_of_getElem? (i := 76) rfl)
theorem wl_7_17 : Cond.code yX10_readFresh cX10_readFresh 3 (some .long) ∈ WALL := tb7 (List.mem_of_getElem? (i := 17) rfl) rfl
theorem wl_7_34 : Cond.methodLink RX10 225 yX10_readPart ∈ WALL := tb7 (List.mem_of_getElem? (i := 34) rfl) rfl
theorem wl_7_36 : Cond.instanceMethod yX10_readPart ∈ WALL := tb7 (List.mem_of_getElem? (i := 36) rfl) rfl
theorem wp_78 : Cond.selects RX10 yX10_readPart yX10_readPart ∈ WALL := tbS (List.mem_of_getElem? (i := 78) rfl)
theorem wl_7_37 : Cond.code yX10_readPart cX10_readPart 4 (some .int) ∈ WALL := tb7 (List.mem_of_getElem? (i := 37) rfl) rfl
theorem wl_7_47 : Cond.methodLink RX10 238 yX9_adds ∈ WALL := tb7 (List.mem_of_getElem? (i := 47) rfl) rfl
theorem wl_7_48 : Cond.instanceMethod yX9_adds ∈ WALL := tb7 (List.mem_of_getElem? (i := 48) rfl) rfl
theorem wl_7_49 : Cond.selects RX9 yX9_adds yX9_adds ∈ WALL := tb7 (List.mem_of_getElem? (i := 49) rfl) rfl
theorem wl_7_50 : Cond.code yX9_adds cX9_adds 4 none ∈ WALL := tb7 (List.mem_of_getElem? (i := 50) rfl) rfl
theorem wl_7_51 : Cond.methodLink RX10 245 yX10_sets ∈ WALL := tb7 (List.mem_of_getElem? (i := 51) rfl) rfl
theorem wl_7_52 : Cond.static yX10_sets ∈ WALL := tb7 (List.mem_of_getElem? (i := 52) rfl) rfl
theorem wl_7_53 : Cond.code yX10_sets cX10_sets 9 none ∈ WALL := tb7 (List.mem_of_getElem? (i := 53) rfl) rfl
theorem hd_X10_readGate : yX10_readGate.cls ≠ "java/lang/invoke/MethodHandle" ∧ yX10_readGate.cls ≠ "java/lang/invoke/VarHandle" ∧ (parseMethodDescriptor yX10_readGate.desc).map (fun d => d.parameters.length) = some 0 := by decide +kernel
set_option maxRecDepth 100000 in
set_option maxHeartbeats 4000000 in
theorem M_X10_readGate (l : Launch) : MtS l yX10_readGate (Cond.code yX10_readGate cX10_readGate 9 none :: WALL) { frames := 8, cells := 0, slots := 0, locals := 173 } [20] none T_X10_readGate := by
  refine MtS.mk (B := E_X10_readGate) (by decide +kernel) (by decide) (fun _ _ _ hh => hh) ?_
  intro X Q e1 e2 e3 hC hN hT
  subst e1
  have hC : CF X cX10_readGate RX10 WALL := hC
  refine (?_ : SdS X 0 [(0, 20)] [] (E_X10_readGate Q))
  unfold E_X10_readGate
  refine su_aload_n hC 20 dX10_readGate_0 rfl (by decide) (by decide) (?_ : SdS X 1 [(0, 20)] [20] _)
  refine su_aload_n hC 20 dX10_readGate_1 rfl (by decide) (by decide) (?_ : SdS X 2 [(0, 20)] [20, 20] _)
  refine su_getR hC (ci := 10) (j := 4) (C := RX10) (T := TX10) (N := 45) rfl rfl (by decide) in_X10 wl_5_168 rfl dX10_readGate_2 (?_ : SdS X 5 [(0, 20)] [19, 20] _)
  refine su_getFN hC (ci := 9) (j := 1) (C := RX9) (T := TX9) (N := 28) (host := "NarrowRingsModel") rfl rfl (by decide) in_X9 (by decide) rfl dX10_readGate_5 (?_ : SdS X 8 [(0, 20)] [0, 20] _)
  refine su_bipush hC dX10_readGate_8 (by decide) (?_ : SdS X 10 [(0, 20)] [0, 0, 20] _)
  refine su_iconst hC dX10_readGate_10 ⟨by decide, by decide⟩ (?_ : SdS X 11 [(0, 20)] [0, 0, 0, 20] _)
  refine su_inv0v (τ := []) (τr := [0, 0, 0]) (ci := 10) (q := (RX10, TX10, 45)) hC WG (M_X10_begins _) rfl rfl rfl rfl  rfl rfl wl_7_10 wl_7_12 wp_75 wl_1_10 wl_7_13 hd_X10_begins (by rw [e3]; decide) (by decide) dX10_readGate_11 (?_ : SdS X 14 [(0, 20)] [] _)
  refine su_aload_n hC 20 dX10_readGate_14 rfl (by decide) (by decide) (?_ : SdS X 15 [(0, 20)] [20] _)
  refine su_inv0 (τ := []) (τr := []) (ci := 10) (q := (RX10, TX10, 45)) hC WG (M_X10_readFresh _) rfl rfl rfl rfl  rfl rfl wl_7_14 wl_7_16 wp_76 wl_1_10 wl_7_17 hd_X10_readFresh (by rw [e3]; decide) (by decide) dX10_readGate_15 (?_ : SdS X 18 [(0, 20)] [1] _)
  refine su_lstore_n (Γ' := [(0, 20), (1, 1)]) hC dX10_readGate_18 rfl (by rw [e2]; decide) (by decide) (?_ : SdS X 19 [(0, 20), (1, 1)] [] _)
  refine su_aload_n hC 20 dX10_readGate_19 rfl (by decide) (by decide) (?_ : SdS X 20 [(0, 20), (1, 1)] [20] _)
  refine su_ldcS hC (tx0 := "in") (i := 9) rfl (by decide) (by decide) dX10_readGate_20 (?_ : SdS X 22 [(0, 20), (1, 1)] [5, 20] _)
  refine su_iconst hC dX10_readGate_22 ⟨by decide, by decide⟩ (?_ : SdS X 23 [(0, 20), (1, 1)] [0, 5, 20] _)
  refine su_aload_n hC 20 dX10_readGate_23 rfl (by decide) (by decide) (?_ : SdS X 24 [(0, 20), (1, 1)] [20, 0, 5, 20] _)
  refine su_getR hC (ci := 10) (j := 4) (C := RX10) (T := TX10) (N := 45) rfl rfl (by decide) in_X10 wl_5_168 rfl dX10_readGate_24 (?_ : SdS X 27 [(0, 20), (1, 1)] [19, 0, 5, 20] _)
  refine su_getFN hC (ci := 9) (j := 0) (C := RX9) (T := TX9) (N := 28) (host := "NarrowRingsModel") rfl rfl (by decide) in_X9 (by decide) rfl dX10_readGate_27 (?_ : SdS X 30 [(0, 20), (1, 1)] [0, 0, 5, 20] _)
  refine su_iconst hC dX10_readGate_30 ⟨by decide, by decide⟩ (?_ : SdS X 31 [(0, 20), (1, 1)] [0, 0, 0, 5, 20] _)
  refine su_isub hC dX10_readGate_31 (?_ : SdS X 32 [(0, 20), (1, 1)] [0, 0, 5, 20] _)
  refine su_inv0 (τ := []) (τr := [5, 0, 0]) (ci := 10) (q := (RX10, TX10, 45)) hC WG (M_X10_readPart _) rfl rfl rfl rfl  rfl rfl wl_7_34 wl_7_36 wp_78 wl_1_10 wl_7_37 hd_X10_readPart (by rw [e3]; decide) (by decide) dX10_readGate_32 (?_ : SdS X 35 [(0, 20), (1, 1)] [0] _)
  refine su_istore_n (Γ' := [(0, 20), (1, 1), (3, 0)]) hC dX10_readGate_35 rfl (by rw [e2]; decide) (by decide) (?_ : SdS X 36 [(0, 20), (1, 1), (3, 0)] [] _)
  refine su_aload_n hC 20 dX10_readGate_36 rfl (by decide) (by decide) (?_ : SdS X 37 [(0, 20), (1, 1), (3, 0)] [20] _)
  refine su_ldcS hC (tx0 := "at") (i := 10) rfl (by decide) (by decide) dX10_readGate_37 (?_ : SdS X 39 [(0, 20), (1, 1), (3, 0)] [5, 20] _)
  refine su_iconst hC dX10_readGate_39 ⟨by decide, by decide⟩ (?_ : SdS X 40 [(0, 20), (1, 1), (3, 0)] [0, 5, 20] _)
  refine su_bipush hC dX10_readGate_40 (by decide) (?_ : SdS X 42 [(0, 20), (1, 1), (3, 0)] [0, 0, 5, 20] _)
  refine su_inv0 (τ := []) (τr := [5, 0, 0]) (ci := 10) (q := (RX10, TX10, 45)) hC WG (M_X10_readPart _) rfl rfl rfl rfl  rfl rfl wl_7_34 wl_7_36 wp_78 wl_1_10 wl_7_37 hd_X10_readPart (by rw [e3]; decide) (by decide) dX10_readGate_42 (?_ : SdS X 45 [(0, 20), (1, 1), (3, 0)] [0] _)
  refine su_istore (Γ' := [(0, 20), (1, 1), (3, 0), (4, 0)]) hC dX10_readGate_45 (by rw [e2]; decide) (by decide) (?_ : SdS X 47 [(0, 20), (1, 1), (3, 0), (4, 0)] [] _)
  refine su_aload_n hC 20 dX10_readGate_47 rfl (by decide) (by decide) (?_ : SdS X 48 [(0, 20), (1, 1), (3, 0), (4, 0)] [20] _)
  refine su_ldcS hC (tx0 := "wide") (i := 11) rfl (by decide) (by decide) dX10_readGate_48 (?_ : SdS X 50 [(0, 20), (1, 1), (3, 0), (4, 0)] [5, 20] _)
  refine su_iconst hC dX10_readGate_50 ⟨by decide, by decide⟩ (?_ : SdS X 51 [(0, 20), (1, 1), (3, 0), (4, 0)] [0, 5, 20] _)
  refine su_bipush hC dX10_readGate_51 (by decide) (?_ : SdS X 53 [(0, 20), (1, 1), (3, 0), (4, 0)] [0, 0, 5, 20] _)
  refine su_inv0 (τ := []) (τr := [5, 0, 0]) (ci := 10) (q := (RX10, TX10, 45)) hC WG (M_X10_readPart _) rfl rfl rfl rfl  rfl rfl wl_7_34 wl_7_36 wp_78 wl_1_10 wl_7_37 hd_X10_readPart (by rw [e3]; decide) (by decide) dX10_readGate_53 (?_ : SdS X 56 [(0, 20), (1, 1), (3, 0), (4, 0)] [0] _)
  refine su_istore (Γ' := [(0, 20), (1, 1), (3, 0), (4, 0), (5, 0)]) hC dX10_readGate_56 (by rw [e2]; decide) (by decide) (?_ : SdS X 58 [(0, 20), (1, 1), (3, 0), (4, 0), (5, 0)] [] _)
  refine su_aload_n hC 20 dX10_readGate_58 rfl (by decide) (by decide) (?_ : SdS X 59 [(0, 20), (1, 1), (3, 0), (4, 0), (5, 0)] [20] _)
  refine su_ldcS hC (tx0 := "high") (i := 12) rfl (by decide) (by decide) dX10_readGate_59 (?_ : SdS X 61 [(0, 20), (1, 1), (3, 0), (4, 0), (5, 0)] [5, 20] _)
  refine su_iconst hC dX10_readGate_61 ⟨by decide, by decide⟩ (?_ : SdS X 62 [(0, 20), (1, 1), (3, 0), (4, 0), (5, 0)] [0, 5, 20] _)
  refine su_bipush hC dX10_readGate_62 (by decide) (?_ : SdS X 64 [(0, 20), (1, 1), (3, 0), (4, 0), (5, 0)] [0, 0, 5, 20] _)
  refine su_inv0 (τ := []) (τr := [5, 0, 0]) (ci := 10) (q := (RX10, TX10, 45)) hC WG (M_X10_readPart _) rfl rfl rfl rfl  rfl rfl wl_7_34 wl_7_36 wp_78 wl_1_10 wl_7_37 hd_X10_readPart (by rw [e3]; decide) (by decide) dX10_readGate_64 (?_ : SdS X 67 [(0, 20), (1, 1), (3, 0), (4, 0), (5, 0)] [0] _)
  refine su_istore (Γ' := [(0, 20), (1, 1), (3, 0), (4, 0), (5, 0), (6, 0)]) hC dX10_readGate_67 (by rw [e2]; decide) (by decide) (?_ : SdS X 69 [(0, 20), (1, 1), (3, 0), (4, 0), (5, 0), (6, 0)] [] _)
  refine su_aload_n hC 20 dX10_readGate_69 rfl (by decide) (by decide) (?_ : SdS X 70 [(0, 20), (1, 1), (3, 0), (4, 0), (5, 0), (6, 0)] [20] _)
  refine su_ldcS hC (tx0 := "hands") (i := 13) rfl (by decide) (by decide) dX10_readGate_70 (?_ : SdS X 72 [(0, 20), (1, 1), (3, 0), (4, 0), (5, 0), (6, 0)] [5, 20] _)
  refine su_iconst hC dX10_readGate_72 ⟨by decide, by decide⟩ (?_ : SdS X 73 [(0, 20), (1, 1), (3, 0), (4, 0), (5, 0), (6, 0)] [0, 5, 20] _)
  refine su_bipush hC dX10_readGate_73 (by decide) (?_ : SdS X 75 [(0, 20), (1, 1), (3, 0), (4, 0), (5, 0), (6, 0)] [0, 0, 5, 20] _)
  refine su_inv0 (τ := []) (τr := [5, 0, 0]) (ci := 10) (q := (RX10, TX10, 45)) hC WG (M_X10_readPart _) rfl rfl rfl rfl  rfl rfl wl_7_34 wl_7_36 wp_78 wl_1_10 wl_7_37 hd_X10_readPart (by rw [e3]; decide) (by decide) dX10_readGate_75 (?_ : SdS X 78 [(0, 20), (1, 1), (3, 0), (4, 0), (5, 0), (6, 0)] [0] _)
  refine su_istore (Γ' := [(0, 20), (1, 1), (3, 0), (4, 0), (5, 0), (6, 0), (7, 0)]) hC dX10_readGate_78 (by rw [e2]; decide) (by decide) (?_ : SdS X 80 [(0, 20), (1, 1), (3, 0), (4, 0), (5, 0), (6, 0), (7, 0)] [] _)
  refine su_aload_n hC 20 dX10_readGate_80 rfl (by decide) (by decide) (?_ : SdS X 81 [(0, 20), (1, 1), (3, 0), (4, 0), (5, 0), (6, 0), (7, 0)] [20] _)
  refine su_ldcS hC (tx0 := "toll") (i := 14) rfl (by decide) (by decide) dX10_readGate_81 (?_ : SdS X 83 [(0, 20), (1, 1), (3, 0), (4, 0), (5, 0), (6, 0), (7, 0)] [5, 20] _)
  refine su_iconst hC dX10_readGate_83 ⟨by decide, by decide⟩ (?_ : SdS X 84 [(0, 20), (1, 1), (3, 0), (4, 0), (5, 0), (6, 0), (7, 0)] [0, 5, 20] _)
  refine su_bipush hC dX10_readGate_84 (by decide) (?_ : SdS X 86 [(0, 20), (1, 1), (3, 0), (4, 0), (5, 0), (6, 0), (7, 0)] [0, 0, 5, 20] _)
  refine su_inv0 (τ := []) (τr := [5, 0, 0]) (ci := 10) (q := (RX10, TX10, 45)) hC WG (M_X10_readPart _) rfl rfl rfl rfl  rfl rfl wl_7_34 wl_7_36 wp_78 wl_1_10 wl_7_37 hd_X10_readPart (by rw [e3]; decide) (by decide) dX10_readGate_86 (?_ : SdS X 89 [(0, 20), (1, 1), (3, 0), (4, 0), (5, 0), (6, 0), (7, 0)] [0] _)
  refine su_istore (Γ' := [(0, 20), (1, 1), (3, 0), (4, 0), (5, 0), (6, 0), (7, 0), (8, 0)]) hC dX10_readGate_89 (by rw [e2]; decide) (by decide) (?_ : SdS X 91 [(0, 20), (1, 1), (3, 0), (4, 0), (5, 0), (6, 0), (7, 0), (8, 0)] [] _)
  refine su_aload_n hC 20 dX10_readGate_91 rfl (by decide) (by decide) (?_ : SdS X 92 [(0, 20), (1, 1), (3, 0), (4, 0), (5, 0), (6, 0), (7, 0), (8, 0)] [20] _)
  refine su_getF hC (ci := 10) (j := 9) (C := RX10) (T := TX10) (N := 45) rfl rfl (by decide) in_X10 wl_5_173 rfl dX10_readGate_92 (?_ : SdS X 95 [(0, 20), (1, 1), (3, 0), (4, 0), (5, 0), (6, 0), (7, 0), (8, 0)] [0] _)
  refine su_iconst hC dX10_readGate_95 ⟨by decide, by decide⟩ (?_ : SdS X 96 [(0, 20), (1, 1), (3, 0), (4, 0), (5, 0), (6, 0), (7, 0), (8, 0)] [0, 0] _)
  refine su_icmp_ne (tgt := 100) hC dX10_readGate_96 rfl (?_ : SdS X 100 [(0, 20), (1, 1), (3, 0), (4, 0), (5, 0), (6, 0), (7, 0), (8, 0)] [] _) (?_ : SdS X 99 [(0, 20), (1, 1), (3, 0), (4, 0), (5, 0), (6, 0), (7, 0), (8, 0)] [] _)
  · refine su_aload_n hC 20 dX10_readGate_100 rfl (by decide) (by decide) (?_ : SdS X 101 [(0, 20), (1, 1), (3, 0), (4, 0), (5, 0), (6, 0), (7, 0), (8, 0)] [20] _)
    refine su_getR hC (ci := 10) (j := 4) (C := RX10) (T := TX10) (N := 45) rfl rfl (by decide) in_X10 wl_5_168 rfl dX10_readGate_101 (?_ : SdS X 104 [(0, 20), (1, 1), (3, 0), (4, 0), (5, 0), (6, 0), (7, 0), (8, 0)] [19] _)
    refine su_lload_n hC dX10_readGate_104 rfl (by decide) (?_ : SdS X 105 [(0, 20), (1, 1), (3, 0), (4, 0), (5, 0), (6, 0), (7, 0), (8, 0)] [1, 19] _)
    refine su_iconst hC dX10_readGate_105 ⟨by decide, by decide⟩ (?_ : SdS X 106 [(0, 20), (1, 1), (3, 0), (4, 0), (5, 0), (6, 0), (7, 0), (8, 0)] [0, 1, 19] _)
    refine su_inv0v (τ := []) (τr := [1, 0]) (ci := 9) (q := (RX9, TX9, 28)) hC WG (M_X9_adds _) rfl rfl rfl rfl  rfl rfl wl_7_47 wl_7_48 wl_7_49 wl_1_17 wl_7_50 hd_X9_adds (by rw [e3]; decide) (by decide) dX10_readGate_106 (?_ : SdS X 109 [(0, 20), (1, 1), (3, 0), (4, 0), (5, 0), (6, 0), (7, 0), (8, 0)] [] _)
    refine su_aload_n hC 20 dX10_readGate_109 rfl (by decide) (by decide) (?_ : SdS X 110 [(0, 20), (1, 1), (3, 0), (4, 0), (5, 0), (6, 0), (7, 0), (8, 0)] [20] _)
    refine su_getR hC (ci := 10) (j := 4) (C := RX10) (T := TX10) (N := 45) rfl rfl (by decide) in_X10 wl_5_168 rfl dX10_readGate_110 (?_ : SdS X 113 [(0, 20), (1, 1), (3, 0), (4, 0), (5, 0), (6, 0), (7, 0), (8, 0)] [19] _)
    refine su_getRN hC (ci := 9) (j := 12) (C := RX9) (T := TX9) (N := 28) (host := "NarrowRingsModel") rfl rfl (by decide) in_X9 (by decide) rfl dX10_readGate_113 (?_ : SdS X 116 [(0, 20), (1, 1), (3, 0), (4, 0), (5, 0), (6, 0), (7, 0), (8, 0)] [100] _)
    refine su_aload_n hC 20 dX10_readGate_116 rfl (by decide) (by decide) (?_ : SdS X 117 [(0, 20), (1, 1), (3, 0), (4, 0), (5, 0), (6, 0), (7, 0), (8, 0)] [20, 100] _)
    refine su_getR hC (ci := 10) (j := 4) (C := RX10) (T := TX10) (N := 45) rfl rfl (by decide) in_X10 wl_5_168 rfl dX10_readGate_117 (?_ : SdS X 120 [(0, 20), (1, 1), (3, 0), (4, 0), (5, 0), (6, 0), (7, 0), (8, 0)] [19, 100] _)
    refine su_getFN hC (ci := 9) (j := 1) (C := RX9) (T := TX9) (N := 28) (host := "NarrowRingsModel") rfl rfl (by decide) in_X9 (by decide) rfl dX10_readGate_120 (?_ : SdS X 123 [(0, 20), (1, 1), (3, 0), (4, 0), (5, 0), (6, 0), (7, 0), (8, 0)] [0, 100] _)
    refine su_iload_n hC dX10_readGate_123 rfl (by decide) (?_ : SdS X 124 [(0, 20), (1, 1), (3, 0), (4, 0), (5, 0), (6, 0), (7, 0), (8, 0)] [0, 0, 100] _)
    refine su_iload hC dX10_readGate_124 (by decide) (?_ : SdS X 126 [(0, 20), (1, 1), (3, 0), (4, 0), (5, 0), (6, 0), (7, 0), (8, 0)] [0, 0, 0, 100] _)
    refine su_iload hC dX10_readGate_126 (by decide) (?_ : SdS X 128 [(0, 20), (1, 1), (3, 0), (4, 0), (5, 0), (6, 0), (7, 0), (8, 0)] [0, 0, 0, 0, 100] _)
    refine su_iload hC dX10_readGate_128 (by decide) (?_ : SdS X 130 [(0, 20), (1, 1), (3, 0), (4, 0), (5, 0), (6, 0), (7, 0), (8, 0)] [0, 0, 0, 0, 0, 100] _)
    refine su_iload hC dX10_readGate_130 (by decide) (?_ : SdS X 132 [(0, 20), (1, 1), (3, 0), (4, 0), (5, 0), (6, 0), (7, 0), (8, 0)] [0, 0, 0, 0, 0, 0, 100] _)
    refine su_iload hC dX10_readGate_132 (by decide) (?_ : SdS X 134 [(0, 20), (1, 1), (3, 0), (4, 0), (5, 0), (6, 0), (7, 0), (8, 0)] [0, 0, 0, 0, 0, 0, 0, 100] _)
    refine su_invsv (τ := []) (τs := [100, 0, 0, 0, 0, 0, 0, 0]) hC false "" WG (M_X10_sets _) rfl rfl rfl rfl wl_7_51 wl_7_52 wl_1_10 wl_7_53 hd_X10_sets (by rw [e3]; decide) (by decide) dX10_readGate_134 (?_ : SdS X 137 [(0, 20), (1, 1), (3, 0), (4, 0), (5, 0), (6, 0), (7, 0), (8, 0)] [] _)
    refine su_aload_n hC 20 dX10_readGate_137 rfl (by decide) (by decide) (?_ : SdS X 138 [(0, 20), (1, 1), (3, 0), (4, 0), (5, 0), (6, 0), (7, 0), (8, 0)] [20] _)
    refine su_getR hC (ci := 10) (j := 4) (C := RX10) (T := TX10) (N := 45) rfl rfl (by decide) in_X10 wl_5_168 rfl dX10_readGate_138 (?_ : SdS X 141 [(0, 20), (1, 1), (3, 0), (4, 0), (5, 0), (6, 0), (7, 0), (8, 0)] [19] _)
    refine su_dup hC (by decide) dX10_readGate_141 (?_ : SdS X 142 [(0, 20), (1, 1), (3, 0), (4, 0), (5, 0), (6, 0), (7, 0), (8, 0)] [19, 19] _)
    refine su_getFN hC (ci := 9) (j := 1) (C := RX9) (T := TX9) (N := 28) (host := "NarrowRingsModel") rfl rfl (by decide) in_X9 (by decide) rfl dX10_readGate_142 (?_ : SdS X 145 [(0, 20), (1, 1), (3, 0), (4, 0), (5, 0), (6, 0), (7, 0), (8, 0)] [0, 19] _)
    refine su_iconst hC dX10_readGate_145 ⟨by decide, by decide⟩ (?_ : SdS X 146 [(0, 20), (1, 1), (3, 0), (4, 0), (5, 0), (6, 0), (7, 0), (8, 0)] [0, 0, 19] _)
    refine su_iadd hC dX10_readGate_146 (?_ : SdS X 147 [(0, 20), (1, 1), (3, 0), (4, 0), (5, 0), (6, 0), (7, 0), (8, 0)] [0, 19] _)
    refine su_putFN hC (ci := 9) (j := 1) (C := RX9) (T := TX9) (N := 28) (host := "NarrowRingsModel") tyX9 tyX9_ok nmX9 rfl rfl (by decide) in_X9 rfl rfl (by decide) rfl dX10_readGate_147 (?_ : SdS X 150 [(0, 20), (1, 1), (3, 0), (4, 0), (5, 0), (6, 0), (7, 0), (8, 0)] [] _)
    exact su_return hC hT dX10_readGate_150
  · exact su_return hC hT dX10_readGate_99
theorem hd_X10_readCart : yX10_readCart.cls ≠ "java/lang/invoke/MethodHandle" ∧ yX10_readCart.cls ≠ "java/lang/invoke/VarHandle" ∧ (parseMethodDescriptor yX10_readCart.desc).map (fun d => d.parameters.length) = some 0 := by decide +kernel
set_option maxRecDepth 100000 in
set_option maxHeartbeats 4000000 in
theorem M_X10_readCart (l : Launch) : MtS l yX10_readCart (Cond.code yX10_readCart cX10_readCart 5 none :: WALL) { frames := 8, cells := 0, slots := 0, locals := 173 } [20] none T_X10_readCart := by
  refine MtS.mk (B := E_X10_readCart) (by decide +kernel) (by decide) (fun _ _ _ hh => hh) ?_
  intro X Q e1 e2 e3 hC hN hT
  subst e1
  have hC : CF X cX10_readCart RX10 WALL := hC
  refine (?_ : SdS X 0 [(0, 20)] [] (E_X10_readCart Q))
  unfold E_X10_readCart
  refine su_aload_n hC 20 dX10_readCart_0 rfl (by decide) (by decide) (?_ : SdS X 1 [(0, 20)] [20] _)
  refine su_aload_n hC 20 dX10_readCart_1 rfl (by decide) (by decide) (?_ : SdS X 2 [(0, 20)] [20, 20] _)
  refine su_getR hC (ci := 10) (j := 4) (C := RX10) (T := TX10) (N := 45) rfl rfl (by decide) in_X10 wl_5_168 rfl dX10_readCart_2 (?_ : SdS X 5 [(0, 20)] [19, 20] _)
  refine su_getFN hC (ci := 9) (j := 2) (C := RX9) (T := TX9) (N := 28) (host := "NarrowRingsModel") rfl rfl (by decide) in_X9 (by decide) rfl dX10_readCart_5 (?_ : SdS X 8 [(0, 20)] [0, 20] _)
  refine su_bipush hC dX10_readCart_8 (by decide) (?_ : SdS X 10 [(0, 20)] [0, 0, 20] _)
  refine su_iconst hC dX10_readCart_10 ⟨by decide, by decide⟩ (?_ : SdS X 11 [(0, 20)] [0, 0, 0, 20] _)
  refine su_inv0v (τ := []) (τr := [0, 0, 0]) (ci := 10) (q := (RX10, TX10, 45)) hC WG (M_X10_begins _) rfl rfl rfl rfl  rfl rfl wl_7_10 wl_7_12 wp_75 wl_1_10 wl_7_13 hd_X10_begins (by rw [e3]; decide) (by decide) dX10_readCart_11 (?_ : SdS X 14 [(0, 20)] [] _)
  refine su_aload_n hC 20 dX10_readCart_14 rfl (by decide) (by decide) (?_ : SdS X 15 [(0, 20)] [20] _)
  refine su_inv0 (τ := []) (τr := []) (ci := 10) (q := (RX10, TX10, 45)) hC WG (M_X10_readFresh _) rfl rfl rfl rfl  rfl rfl wl_7_14 wl_7_16 wp_76 wl_1_10 wl_7_17 hd_X10_readFresh (by rw [e3]; decide) (by decide) dX10_readCart_15 (?_ : SdS X 18 [(0, 20)] [1] _)
  refine su_lstore_n (Γ' := [(0, 20), (1, 1)]) hC dX10_readCart_18 rfl (by rw [e2]; decide) (by decide) (?_ : SdS X 19 [(0, 20), (1, 1)] [] _)
  refine su_aload_n hC 20 dX10_readCart_19 rfl (by decide) (by decide) (?_ : SdS X 20 [(0, 20), (1, 1)] [20] _)
  refine su_ldcS hC (tx0 := "in") (i := 9) rfl (by decide) (by decide) dX10_readCart_20 (?_ : SdS X 22 [(0, 20), (1, 1)] [5, 20] _)
  refine su_iconst hC dX10_readCart_22 ⟨by decide, by decide⟩ (?_ : SdS X 23 [(0, 20), (1, 1)] [0, 5, 20] _)
  refine su_aload_n hC 20 dX10_readCart_23 rfl (by decide) (by decide) (?_ : SdS X 24 [(0, 20), (1, 1)] [20, 0, 5, 20] _)
  refine su_getR hC (ci := 10) (j := 4) (C := RX10) (T := TX10) (N := 45) rfl rfl (by decide) in_X10 wl_5_168 rfl dX10_readCart_24 (?_ : SdS X 27 [(0, 20), (1, 1)] [19, 0, 5, 20] _)
  refine su_getFN hC (ci := 9) (j := 0) (C := RX9) (T := TX9) (N := 28) (host := "NarrowRingsModel") rfl rfl (by decide) in_X9 (by decide) rfl dX10_readCart_27 (?_ : SdS X 30 [(0, 20), (1, 1)] [0, 0, 5, 20] _)
  refine su_iconst hC dX10_readCart_30 ⟨by decide, by decide⟩ (?_ : SdS X 31 [(0, 20), (1, 1)] [0, 0, 0, 5, 20] _)
  refine su_isub hC dX10_readCart_31 (?_ : SdS X 32 [(0, 20), (1, 1)] [0, 0, 5, 20] _)
  refine su_inv0 (τ := []) (τr := [5, 0, 0]) (ci := 10) (q := (RX10, TX10, 45)) hC WG (M_X10_readPart _) rfl rfl rfl rfl  rfl rfl wl_7_34 wl_7_36 wp_78 wl_1_10 wl_7_37 hd_X10_readPart (by rw [e3]; decide) (by decide) dX10_readCart_32 (?_ : SdS X 35 [(0, 20), (1, 1)] [0] _)
  refine su_istore_n (Γ' := [(0, 20), (1, 1), (3, 0)]) hC dX10_readCart_35 rfl (by rw [e2]; decide) (by decide) (?_ : SdS X 36 [(0, 20), (1, 1), (3, 0)] [] _)
  refine su_aload_n hC 20 dX10_readCart_36 rfl (by decide) (by decide) (?_ : SdS X 37 [(0, 20), (1, 1), (3, 0)] [20] _)
  refine su_ldcS hC (tx0 := "bears") (i := 15) rfl (by decide) (by decide) dX10_readCart_37 (?_ : SdS X 39 [(0, 20), (1, 1), (3, 0)] [5, 20] _)
  refine su_iconst hC dX10_readCart_39 ⟨by decide, by decide⟩ (?_ : SdS X 40 [(0, 20), (1, 1), (3, 0)] [0, 5, 20] _)
  refine su_bipush hC dX10_readCart_40 (by decide) (?_ : SdS X 42 [(0, 20), (1, 1), (3, 0)] [0, 0, 5, 20] _)
  refine su_inv0 (τ := []) (τr := [5, 0, 0]) (ci := 10) (q := (RX10, TX10, 45)) hC WG (M_X10_readPart _) rfl rfl rfl rfl  rfl rfl wl_7_34 wl_7_36 wp_78 wl_1_10 wl_7_37 hd_X10_readPart (by rw [e3]; decide) (by decide) dX10_readCart_42 (?_ : SdS X 45 [(0, 20), (1, 1), (3, 0)] [0] _)
  refine su_istore (Γ' := [(0, 20), (1, 1), (3, 0), (4, 0)]) hC dX10_readCart_45 (by rw [e2]; decide) (by decide) (?_ : SdS X 47 [(0, 20), (1, 1), (3, 0), (4, 0)] [] _)
  refine su_aload_n hC 20 dX10_readCart_47 rfl (by decide) (by decide) (?_ : SdS X 48 [(0, 20), (1, 1), (3, 0), (4, 0)] [20] _)
  refine su_getF hC (ci := 10) (j := 9) (C := RX10) (T := TX10) (N := 45) rfl rfl (by decide) in_X10 wl_5_173 rfl dX10_readCart_48 (?_ : SdS X 51 [(0, 20), (1, 1), (3, 0), (4, 0)] [0] _)
  refine su_iconst hC dX10_readCart_51 ⟨by decide, by decide⟩ (?_ : SdS X 52 [(0, 20), (1, 1), (3, 0), (4, 0)] [0, 0] _)
  refine su_icmp_ne (tgt := 56) hC dX10_readCart_52 rfl (?_ : SdS X 56 [(0, 20), (1, 1), (3, 0), (4, 0)] [] _) (?_ : SdS X 55 [(0, 20), (1, 1), (3, 0), (4, 0)] [] _)
  · refine su_aload_n hC 20 dX10_readCart_56 rfl (by decide) (by decide) (?_ : SdS X 57 [(0, 20), (1, 1), (3, 0), (4, 0)] [20] _)
    refine su_getR hC (ci := 10) (j := 4) (C := RX10) (T := TX10) (N := 45) rfl rfl (by decide) in_X10 wl_5_168 rfl dX10_readCart_57 (?_ : SdS X 60 [(0, 20), (1, 1), (3, 0), (4, 0)] [19] _)
    refine su_lload_n hC dX10_readCart_60 rfl (by decide) (?_ : SdS X 61 [(0, 20), (1, 1), (3, 0), (4, 0)] [1, 19] _)
    refine su_iconst hC dX10_readCart_61 ⟨by decide, by decide⟩ (?_ : SdS X 62 [(0, 20), (1, 1), (3, 0), (4, 0)] [0, 1, 19] _)
    refine su_inv0v (τ := []) (τr := [1, 0]) (ci := 9) (q := (RX9, TX9, 28)) hC WG (M_X9_adds _) rfl rfl rfl rfl  rfl rfl wl_7_47 wl_7_48 wl_7_49 wl_1_17 wl_7_50 hd_X9_adds (by rw [e3]; decide) (by decide) dX10_readCart_62 (?_ : SdS X 65 [(0, 20), (1, 1), (3, 0), (4, 0)] [] _)
    refine su_aload_n hC 20 dX10_readCart_65 rfl (by decide) (by decide) (?_ : SdS X 66 [(0, 20), (1, 1), (3, 0), (4, 0)] [20] _)
    refine su_getR hC (ci := 10) (j := 4) (C := RX10) (T := TX10) (N := 45) rfl rfl (by decide) in_X10 wl_5_168 rfl dX10_readCart_66 (?_ : SdS X 69 [(0, 20), (1, 1), (3, 0), (4, 0)] [19] _)
    refine su_getRN hC (ci := 9) (j := 13) (C := RX9) (T := TX9) (N := 28) (host := "NarrowRingsModel") rfl rfl (by decide) in_X9 (by decide) rfl dX10_readCart_69 (?_ : SdS X 72 [(0, 20), (1, 1), (3, 0), (4, 0)] [100] _)
    refine su_aload_n hC 20 dX10_readCart_72 rfl (by decide) (by decide) (?_ : SdS X 73 [(0, 20), (1, 1), (3, 0), (4, 0)] [20, 100] _)
    refine su_getR hC (ci := 10) (j := 4) (C := RX10) (T := TX10) (N := 45) rfl rfl (by decide) in_X10 wl_5_168 rfl dX10_readCart_73 (?_ : SdS X 76 [(0, 20), (1, 1), (3, 0), (4, 0)] [19, 100] _)
    refine su_getFN hC (ci := 9) (j := 2) (C := RX9) (T := TX9) (N := 28) (host := "NarrowRingsModel") rfl rfl (by decide) in_X9 (by decide) rfl dX10_readCart_76 (?_ : SdS X 79 [(0, 20), (1, 1), (3, 0), (4, 0)] [0, 100] _)
    refine su_iload_n hC dX10_readCart_79 rfl (by decide) (?_ : SdS X 80 [(0, 20), (1, 1), (3, 0), (4, 0)] [0, 0, 100] _)
    refine su_iastore hC dX10_readCart_80 (?_ : SdS X 81 [(0, 20), (1, 1), (3, 0), (4, 0)] [] _)
    refine su_aload_n hC 20 dX10_readCart_81 rfl (by decide) (by decide) (?_ : SdS X 82 [(0, 20), (1, 1), (3, 0), (4, 0)] [20] _)
    refine su_getR hC (ci := 10) (j := 4) (C := RX10) (T := TX10) (N := 45) rfl rfl (by decide) in_X10 wl_5_168 rfl dX10_readCart_82 (?_ : SdS X 85 [(0, 20), (1, 1), (3, 0), (4, 0)] [19] _)
    refine su_getRN hC (ci := 9) (j := 14) (C := RX9) (T := TX9) (N := 28) (host := "NarrowRingsModel") rfl rfl (by decide) in_X9 (by decide) rfl dX10_readCart_85 (?_ : SdS X 88 [(0, 20), (1, 1), (3, 0), (4, 0)] [100] _)
    refine su_aload_n hC 20 dX10_readCart_88 rfl (by decide) (by decide) (?_ : SdS X 89 [(0, 20), (1, 1), (3, 0), (4, 0)] [20, 100] _)
    refine su_getR hC (ci := 10) (j := 4) (C := RX10) (T := TX10) (N := 45) rfl rfl (by decide) in_X10 wl_5_168 rfl dX10_readCart_89 (?_ : SdS X 92 [(0, 20), (1, 1), (3, 0), (4, 0)] [19, 100] _)
    refine su_getFN hC (ci := 9) (j := 2) (C := RX9) (T := TX9) (N := 28) (host := "NarrowRingsModel") rfl rfl (by decide) in_X9 (by decide) rfl dX10_readCart_92 (?_ : SdS X 95 [(0, 20), (1, 1), (3, 0), (4, 0)] [0, 100] _)
    refine su_iload hC dX10_readCart_95 (by decide) (?_ : SdS X 97 [(0, 20), (1, 1), (3, 0), (4, 0)] [0, 0, 100] _)
    refine su_iastore hC dX10_readCart_97 (?_ : SdS X 98 [(0, 20), (1, 1), (3, 0), (4, 0)] [] _)
    refine su_aload_n hC 20 dX10_readCart_98 rfl (by decide) (by decide) (?_ : SdS X 99 [(0, 20), (1, 1), (3, 0), (4, 0)] [20] _)
    refine su_getR hC (ci := 10) (j := 4) (C := RX10) (T := TX10) (N := 45) rfl rfl (by decide) in_X10 wl_5_168 rfl dX10_readCart_99 (?_ : SdS X 102 [(0, 20), (1, 1), (3, 0), (4, 0)] [19] _)
    refine su_dup hC (by decide) dX10_readCart_102 (?_ : SdS X 103 [(0, 20), (1, 1), (3, 0), (4, 0)] [19, 19] _)
    refine su_getFN hC (ci := 9) (j := 2) (C := RX9) (T := TX9) (N := 28) (host := "NarrowRingsModel") rfl rfl (by decide) in_X9 (by decide) rfl dX10_readCart_103 (?_ : SdS X 106 [(0, 20), (1, 1), (3, 0), (4, 0)] [0, 19] _)
    refine su_iconst hC dX10_readCart_106 ⟨by decide, by decide⟩ (?_ : SdS X 107 [(0, 20), (1, 1), (3, 0), (4, 0)] [0, 0, 19] _)
    refine su_iadd hC dX10_readCart_107 (?_ : SdS X 108 [(0, 20), (1, 1), (3, 0), (4, 0)] [0, 19] _)
    refine su_putFN hC (ci := 9) (j := 2) (C := RX9) (T := TX9) (N := 28) (host := "NarrowRingsModel") tyX9 tyX9_ok nmX9 rfl rfl (by decide) in_X9 rfl rfl (by decide) rfl dX10_readCart_108 (?_ : SdS X 111 [(0, 20), (1, 1), (3, 0), (4, 0)] [] _)
    exact su_return hC hT dX10_readCart_111
  · exact su_return hC hT dX10_readCart_55
theorem hd_X10_readStore : yX10_readStore.cls ≠ "java/lang/invoke/MethodHandle" ∧ yX10_readStore.cls ≠ "java/lang/invoke/VarHandle" ∧ (parseMethodDescriptor yX10_readStore.desc).map (fun d => d.parameters.length) = some 0 := by decide +kernel
set_option maxRecDepth 100000 in
set_option maxHeartbeats 4000000 in
theorem M_X10_readStore (l : Launch) : MtS l yX10_readStore (Cond.code yX10_readStore cX10_readStore 4 none :: WALL) { frames := 8, cells := 0, slots := 0, locals := 173 } [20] none T_X10_readStore := by
  refine MtS.mk (B := E_X10_readStore) (by decide +kernel) (by decide) (fun _ _ _ hh => hh) ?_
  intro X Q e1 e2 e3 hC hN hT
  subst e1
  have hC : CF X cX10_readStore RX10 WALL := hC
  have S_47 : SdS X 47 [(0, 20), (1, 0)] [] (B_X10_readStore_47 Q) := by
    unfold B_X10_readStore_47
    refine su_aload_n hC 20 dX10_readStore_47 rfl (by decide) (by decide) (?_ : SdS X 48 [(0, 20), (1, 0)] [20] _)
    refine su_inv0v (τ := []) (τr := []) (ci := 10) (q := (RX10, TX10, 45)) hC WG (M_X10_goesOn _) rfl rfl rfl rfl  rfl rfl wl_6_189 wl_6_191 wp_64 wl_1_10 wl_6_192 hd_X10_goesOn (by rw [e3]; decide) (by decide) dX10_readStore_48 (?_ : SdS X 51 [(0, 20), (1, 0)] [] _)
    refine su_aload_n hC 20 dX10_readStore_51 rfl (by decide) (by decide) (?_ : SdS X 52 [(0, 20), (1, 0)] [20] _)
    refine su_ldc_wS hC (tx0 := "bread") (i := 16) rfl (by decide) (by decide) dX10_readStore_52 (?_ : SdS X 55 [(0, 20), (1, 0)] [5, 20] _)
    refine su_iconst hC dX10_readStore_55 ⟨by decide, by decide⟩ (?_ : SdS X 56 [(0, 20), (1, 0)] [0, 5, 20] _)
    refine su_sipush hC dX10_readStore_56 (by decide) (?_ : SdS X 59 [(0, 20), (1, 0)] [0, 0, 5, 20] _)
    refine su_inv0 (τ := []) (τr := [5, 0, 0]) (ci := 10) (q := (RX10, TX10, 45)) hC WG (M_X10_readPart _) rfl rfl rfl rfl  rfl rfl wl_7_34 wl_7_36 wp_78 wl_1_10 wl_7_37 hd_X10_readPart (by rw [e3]; decide) (by decide) dX10_readStore_59 (?_ : SdS X 62 [(0, 20), (1, 0)] [0] _)
    refine su_istore_n (Γ' := [(0, 20), (1, 0), (2, 0)]) hC dX10_readStore_62 rfl (by rw [e2]; decide) (by decide) (?_ : SdS X 63 [(0, 20), (1, 0), (2, 0)] [] _)
    refine su_aload_n hC 20 dX10_readStore_63 rfl (by decide) (by decide) (?_ : SdS X 64 [(0, 20), (1, 0), (2, 0)] [20] _)
    refine su_ldc_wS hC (tx0 := "mouths") (i := 17) rfl (by decide) (by decide) dX10_readStore_64 (?_ : SdS X 67 [(0, 20), (1, 0), (2, 0)] [5, 20] _)
    refine su_iconst hC dX10_readStore_67 ⟨by decide, by decide⟩ (?_ : SdS X 68 [(0, 20), (1, 0), (2, 0)] [0, 5, 20] _)
    refine su_bipush hC dX10_readStore_68 (by decide) (?_ : SdS X 70 [(0, 20), (1, 0), (2, 0)] [0, 0, 5, 20] _)
    refine su_inv0 (τ := []) (τr := [5, 0, 0]) (ci := 10) (q := (RX10, TX10, 45)) hC WG (M_X10_readPart _) rfl rfl rfl rfl  rfl rfl wl_7_34 wl_7_36 wp_78 wl_1_10 wl_7_37 hd_X10_readPart (by rw [e3]; decide) (by decide) dX10_readStore_70 (?_ : SdS X 73 [(0, 20), (1, 0), (2, 0)] [0] _)
    refine su_istore_n (Γ' := [(0, 20), (1, 0), (2, 0), (3, 0)]) hC dX10_readStore_73 rfl (by rw [e2]; decide) (by decide) (?_ : SdS X 74 [(0, 20), (1, 0), (2, 0), (3, 0)] [] _)
    refine su_aload_n hC 20 dX10_readStore_74 rfl (by decide) (by decide) (?_ : SdS X 75 [(0, 20), (1, 0), (2, 0), (3, 0)] [20] _)
    refine su_getF hC (ci := 10) (j := 9) (C := RX10) (T := TX10) (N := 45) rfl rfl (by decide) in_X10 wl_5_173 rfl dX10_readStore_75 (?_ : SdS X 78 [(0, 20), (1, 0), (2, 0), (3, 0)] [0] _)
    refine su_iconst hC dX10_readStore_78 ⟨by decide, by decide⟩ (?_ : SdS X 79 [(0, 20), (1, 0), (2, 0), (3, 0)] [0, 0] _)
    refine su_icmp_ne (tgt := 83) hC dX10_readStore_79 rfl (?_ : SdS X 83 [(0, 20), (1, 0), (2, 0), (3, 0)] [] _) (?_ : SdS X 82 [(0, 20), (1, 0), (2, 0), (3, 0)] [] _)
    · refine su_aload_n hC 20 dX10_readStore_83 rfl (by decide) (by decide) (?_ : SdS X 84 [(0, 20), (1, 0), (2, 0), (3, 0)] [20] _)
      refine su_getR hC (ci := 10) (j := 4) (C := RX10) (T := TX10) (N := 45) rfl rfl (by decide) in_X10 wl_5_168 rfl dX10_readStore_84 (?_ : SdS X 87 [(0, 20), (1, 0), (2, 0), (3, 0)] [19] _)
      refine su_getRN hC (ci := 9) (j := 9) (C := RX9) (T := TX9) (N := 28) (host := "NarrowRingsModel") rfl rfl (by decide) in_X9 (by decide) rfl dX10_readStore_87 (?_ : SdS X 90 [(0, 20), (1, 0), (2, 0), (3, 0)] [103] _)
      refine su_iload_n hC dX10_readStore_90 rfl (by decide) (?_ : SdS X 91 [(0, 20), (1, 0), (2, 0), (3, 0)] [0, 103] _)
      refine su_iconst hC dX10_readStore_91 ⟨by decide, by decide⟩ (?_ : SdS X 92 [(0, 20), (1, 0), (2, 0), (3, 0)] [0, 0, 103] _)
      refine su_zastore hC dX10_readStore_92 (?_ : SdS X 93 [(0, 20), (1, 0), (2, 0), (3, 0)] [] _)
      refine su_aload_n hC 20 dX10_readStore_93 rfl (by decide) (by decide) (?_ : SdS X 94 [(0, 20), (1, 0), (2, 0), (3, 0)] [20] _)
      refine su_getR hC (ci := 10) (j := 4) (C := RX10) (T := TX10) (N := 45) rfl rfl (by decide) in_X10 wl_5_168 rfl dX10_readStore_94 (?_ : SdS X 97 [(0, 20), (1, 0), (2, 0), (3, 0)] [19] _)
      refine su_getRN hC (ci := 9) (j := 7) (C := RX9) (T := TX9) (N := 28) (host := "NarrowRingsModel") rfl rfl (by decide) in_X9 (by decide) rfl dX10_readStore_97 (?_ : SdS X 100 [(0, 20), (1, 0), (2, 0), (3, 0)] [100] _)
      refine su_iload_n hC dX10_readStore_100 rfl (by decide) (?_ : SdS X 101 [(0, 20), (1, 0), (2, 0), (3, 0)] [0, 100] _)
      refine su_iload_n hC dX10_readStore_101 rfl (by decide) (?_ : SdS X 102 [(0, 20), (1, 0), (2, 0), (3, 0)] [0, 0, 100] _)
      refine su_iastore hC dX10_readStore_102 (?_ : SdS X 103 [(0, 20), (1, 0), (2, 0), (3, 0)] [] _)
      refine su_aload_n hC 20 dX10_readStore_103 rfl (by decide) (by decide) (?_ : SdS X 104 [(0, 20), (1, 0), (2, 0), (3, 0)] [20] _)
      refine su_getR hC (ci := 10) (j := 4) (C := RX10) (T := TX10) (N := 45) rfl rfl (by decide) in_X10 wl_5_168 rfl dX10_readStore_104 (?_ : SdS X 107 [(0, 20), (1, 0), (2, 0), (3, 0)] [19] _)
      refine su_getRN hC (ci := 9) (j := 8) (C := RX9) (T := TX9) (N := 28) (host := "NarrowRingsModel") rfl rfl (by decide) in_X9 (by decide) rfl dX10_readStore_107 (?_ : SdS X 110 [(0, 20), (1, 0), (2, 0), (3, 0)] [100] _)
      refine su_iload_n hC dX10_readStore_110 rfl (by decide) (?_ : SdS X 111 [(0, 20), (1, 0), (2, 0), (3, 0)] [0, 100] _)
      refine su_iload_n hC dX10_readStore_111 rfl (by decide) (?_ : SdS X 112 [(0, 20), (1, 0), (2, 0), (3, 0)] [0, 0, 100] _)
      refine su_iastore hC dX10_readStore_112 (?_ : SdS X 113 [(0, 20), (1, 0), (2, 0), (3, 0)] [] _)
      exact su_return hC hT dX10_readStore_113
    · exact su_return hC hT dX10_readStore_82
  refine (?_ : SdS X 0 [(0, 20)] [] (E_X10_readStore Q))
  unfold E_X10_readStore
  refine su_aload_n hC 20 dX10_readStore_0 rfl (by decide) (by decide) (?_ : SdS X 1 [(0, 20)] [20] _)
  refine su_iconst hC dX10_readStore_1 ⟨by decide, by decide⟩ (?_ : SdS X 2 [(0, 20)] [0, 20] _)
  refine su_iconst hC dX10_readStore_2 ⟨by decide, by decide⟩ (?_ : SdS X 3 [(0, 20)] [0, 0, 20] _)
  refine su_iconst hC dX10_readStore_3 ⟨by decide, by decide⟩ (?_ : SdS X 4 [(0, 20)] [0, 0, 0, 20] _)
  refine su_inv0v (τ := []) (τr := [0, 0, 0]) (ci := 10) (q := (RX10, TX10, 45)) hC WG (M_X10_begins _) rfl rfl rfl rfl  rfl rfl wl_7_10 wl_7_12 wp_75 wl_1_10 wl_7_13 hd_X10_begins (by rw [e3]; decide) (by decide) dX10_readStore_4 (?_ : SdS X 7 [(0, 20)] [] _)
  refine su_aload_n hC 20 dX10_readStore_7 rfl (by decide) (by decide) (?_ : SdS X 8 [(0, 20)] [20] _)
  refine su_iconst hC dX10_readStore_8 ⟨by decide, by decide⟩ (?_ : SdS X 9 [(0, 20)] [0, 20] _)
  refine su_aload_n hC 20 dX10_readStore_9 rfl (by decide) (by decide) (?_ : SdS X 10 [(0, 20)] [20, 0, 20] _)
  refine su_getR hC (ci := 10) (j := 4) (C := RX10) (T := TX10) (N := 45) rfl rfl (by decide) in_X10 wl_5_168 rfl dX10_readStore_10 (?_ : SdS X 13 [(0, 20)] [19, 0, 20] _)
  refine su_getFN hC (ci := 9) (j := 0) (C := RX9) (T := TX9) (N := 28) (host := "NarrowRingsModel") rfl rfl (by decide) in_X9 (by decide) rfl dX10_readStore_13 (?_ : SdS X 16 [(0, 20)] [0, 0, 20] _)
  refine su_iconst hC dX10_readStore_16 ⟨by decide, by decide⟩ (?_ : SdS X 17 [(0, 20)] [0, 0, 0, 20] _)
  refine su_isub hC dX10_readStore_17 (?_ : SdS X 18 [(0, 20)] [0, 0, 20] _)
  refine su_inv0 (τ := []) (τr := [0, 0]) (ci := 10) (q := (RX10, TX10, 45)) hC WG (M_X10_bounded _) rfl rfl rfl rfl  rfl rfl wl_6_234 wl_6_236 wp_72 wl_1_10 wl_6_237 hd_X10_bounded (by rw [e3]; decide) (by decide) dX10_readStore_18 (?_ : SdS X 21 [(0, 20)] [0] _)
  refine su_istore_n (Γ' := [(0, 20), (1, 0)]) hC dX10_readStore_21 rfl (by rw [e2]; decide) (by decide) (?_ : SdS X 22 [(0, 20), (1, 0)] [] _)
  refine su_aload_n hC 20 dX10_readStore_22 rfl (by decide) (by decide) (?_ : SdS X 23 [(0, 20), (1, 0)] [20] _)
  refine su_getF hC (ci := 10) (j := 9) (C := RX10) (T := TX10) (N := 45) rfl rfl (by decide) in_X10 wl_5_173 rfl dX10_readStore_23 (?_ : SdS X 26 [(0, 20), (1, 0)] [0] _)
  refine su_iconst hC dX10_readStore_26 ⟨by decide, by decide⟩ (?_ : SdS X 27 [(0, 20), (1, 0)] [0, 0] _)
  refine su_icmp_eq (tgt := 47) hC dX10_readStore_27 rfl (?_ : SdS X 47 [(0, 20), (1, 0)] [] _) (?_ : SdS X 30 [(0, 20), (1, 0)] [] _)
  · exact SdS.weak (by decide) (S_47)
  · refine su_aload_n hC 20 dX10_readStore_30 rfl (by decide) (by decide) (?_ : SdS X 31 [(0, 20), (1, 0)] [20] _)
    refine su_getR hC (ci := 10) (j := 4) (C := RX10) (T := TX10) (N := 45) rfl rfl (by decide) in_X10 wl_5_168 rfl dX10_readStore_31 (?_ : SdS X 34 [(0, 20), (1, 0)] [19] _)
    refine su_getRN hC (ci := 9) (j := 9) (C := RX9) (T := TX9) (N := 28) (host := "NarrowRingsModel") rfl rfl (by decide) in_X9 (by decide) rfl dX10_readStore_34 (?_ : SdS X 37 [(0, 20), (1, 0)] [103] _)
    refine su_iload_n hC dX10_readStore_37 rfl (by decide) (?_ : SdS X 38 [(0, 20), (1, 0)] [0, 103] _)
    refine su_zaload hC dX10_readStore_38 (?_ : SdS X 39 [(0, 20), (1, 0)] [0] _)
    refine su_if_eq (tgt := 47) hC dX10_readStore_39 rfl (?_ : SdS X 47 [(0, 20), (1, 0)] [] _) (?_ : SdS X 42 [(0, 20), (1, 0)] [] _)
    · exact SdS.weak (by decide) (S_47)
    · refine su_aload_n hC 20 dX10_readStore_42 rfl (by decide) (by decide) (?_ : SdS X 43 [(0, 20), (1, 0)] [20] _)
      refine su_iconst hC dX10_readStore_43 ⟨by decide, by decide⟩ (?_ : SdS X 44 [(0, 20), (1, 0)] [0, 20] _)
      refine su_inv0v (τ := []) (τr := [0]) (ci := 10) (q := (RX10, TX10, 45)) hC WG (M_X10_wrong _) rfl rfl rfl rfl  rfl rfl wl_6_226 wl_6_228 wp_70 wl_1_10 wl_6_229 hd_X10_wrong (by rw [e3]; decide) (by decide) dX10_readStore_44 (?_ : SdS X 47 [(0, 20), (1, 0)] [] _)
      exact SdS.weak (by decide) (S_47)
theorem hd_X10_eatsWord : yX10_eatsWord.cls ≠ "java/lang/invoke/MethodHandle" ∧ yX10_eatsWord.cls ≠ "java/lang/invoke/VarHandle" ∧ (parseMethodDescriptor yX10_eatsWord.desc).map (fun d => d.parameters.length) = some 1 := by decide +kernel
set_option maxRecDepth 100000 in
set_option maxHeartbeats 4000000 in
theorem M_X10_eatsWord (l : Launch) : MtS l yX10_eatsWord (Cond.code yX10_eatsWord cX10_eatsWord 3 (some .boolean) :: WALL) { frames := 6, cells := 0, slots := 0, locals := 129 } [20, 5] (some 0) T_X10_eatsWord := by
  refine MtS.mk (B := E_X10_eatsWord) (by decide +kernel) (by decide) (fun _ _ _ hh => hh) ?_
  intro X Q e1 e2 e3 hC hN hT
  subst e1
  have hC : CF X cX10_eatsWord RX10 WALL := hC
  have S_14 : SdS X 14 [(0, 20), (1, 5), (2, 0)] [] (B_X10_eatsWord_14 Q) := by
    unfold B_X10_eatsWord_14
    refine su_iload_n hC dX10_eatsWord_14 rfl (by decide) (?_ : SdS X 15 [(0, 20), (1, 5), (2, 0)] [0] _)
    exact su_zreturn hC hT dX10_eatsWord_15
  refine (?_ : SdS X 0 [(0, 20), (1, 5)] [] (E_X10_eatsWord Q))
  unfold E_X10_eatsWord
  refine su_aload_n hC 20 dX10_eatsWord_0 rfl (by decide) (by decide) (?_ : SdS X 1 [(0, 20), (1, 5)] [20] _)
  refine su_aload_n hC 5 dX10_eatsWord_1 rfl (by decide) (by decide) (?_ : SdS X 2 [(0, 20), (1, 5)] [5, 20] _)
  refine su_inv0 (τ := []) (τr := [5]) (ci := 10) (q := (RX10, TX10, 45)) hC WG (M_X10_isWord _) rfl rfl rfl rfl  rfl rfl wl_6_213 wl_6_215 wp_68 wl_1_10 wl_6_216 hd_X10_isWord (by rw [e3]; decide) (by decide) dX10_eatsWord_2 (?_ : SdS X 5 [(0, 20), (1, 5)] [0] _)
  refine su_istore_n (Γ' := [(0, 20), (1, 5), (2, 0)]) hC dX10_eatsWord_5 rfl (by rw [e2]; decide) (by decide) (?_ : SdS X 6 [(0, 20), (1, 5), (2, 0)] [] _)
  refine su_iload_n hC dX10_eatsWord_6 rfl (by decide) (?_ : SdS X 7 [(0, 20), (1, 5), (2, 0)] [0] _)
  refine su_if_eq (tgt := 14) hC dX10_eatsWord_7 rfl (?_ : SdS X 14 [(0, 20), (1, 5), (2, 0)] [] _) (?_ : SdS X 10 [(0, 20), (1, 5), (2, 0)] [] _)
  · exact SdS.weak (by decide) (S_14)
  · refine su_aload_n hC 20 dX10_eatsWord_10 rfl (by decide) (by decide) (?_ : SdS X 11 [(0, 20), (1, 5), (2, 0)] [20] _)
    refine su_inv0v (τ := []) (τr := []) (ci := 10) (q := (RX10, TX10, 45)) hC WG (M_X10_goesOn _) rfl rfl rfl rfl  rfl rfl wl_6_189 wl_6_191 wp_64 wl_1_10 wl_6_192 hd_X10_goesOn (by rw [e3]; decide) (by decide) dX10_eatsWord_11 (?_ : SdS X 14 [(0, 20), (1, 5), (2, 0)] [] _)
    exact SdS.weak (by decide) (S_14)
theorem wl_7_71 : Cond.methodLink RX10 278 yX10_eatsWord ∈ WALL := tb7 (List.mem_of_getElem? (i := 71) rfl) rfl
theorem wl_7_73 : Cond.instanceMethod yX10_eatsWord ∈ WALL := tb7 (List.mem_of_getElem? (i := 73) rfl) rfl
theorem wp_83 : Cond.selects RX10 yX10_eatsWord yX10_eatsWord ∈ WALL := tbS (List.mem_of_getElem? (i := 83) rfl)
theorem wl_7_74 : Cond.code yX10_eatsWord cX10_eatsWord 3 (some .boolean) ∈ WALL := tb7 (List.mem_of_getElem? (i := 74) rfl) rfl
theorem hd_X10_readGood : yX10_readGood.cls ≠ "java/lang/invoke/MethodHandle" ∧ yX10_readGood.cls ≠ "java/lang/invoke/VarHandle" ∧ (parseMethodDescriptor yX10_readGood.desc).map (fun d => d.parameters.length) = some 0 := by decide +kernel
set_option maxRecDepth 100000 in
set_option maxHeartbeats 4000000 in
theorem M_X10_readGood (l : Launch) : MtS l yX10_readGood (Cond.code yX10_readGood cX10_readGood 11 none :: WALL) { frames := 8, cells := 0, slots := 0, locals := 173 } [20] none T_X10_readGood := by
  refine MtS.mk (B := E_X10_readGood) (by decide +kernel) (by decide) (fun _ _ _ hh => hh) ?_
  intro X Q e1 e2 e3 hC hN hT
  subst e1
  have hC : CF X cX10_readGood RX10 WALL := hC
  have S_84 : SdS X 84 [(0, 20), (1, 1), (3, 0), (4, 0), (5, 0), (6, 0)] [0] (B_X10_readGood_84 Q) := by
    unfold B_X10_readGood_84
    refine su_istore (Γ' := [(0, 20), (1, 1), (3, 0), (4, 0), (5, 0), (6, 0), (7, 0)]) hC dX10_readGood_84 (by rw [e2]; decide) (by decide) (?_ : SdS X 86 [(0, 20), (1, 1), (3, 0), (4, 0), (5, 0), (6, 0), (7, 0)] [] _)
    refine su_aload_n hC 20 dX10_readGood_86 rfl (by decide) (by decide) (?_ : SdS X 87 [(0, 20), (1, 1), (3, 0), (4, 0), (5, 0), (6, 0), (7, 0)] [20] _)
    refine su_ldcS hC (tx0 := "tilts") (i := 7) rfl (by decide) (by decide) dX10_readGood_87 (?_ : SdS X 89 [(0, 20), (1, 1), (3, 0), (4, 0), (5, 0), (6, 0), (7, 0)] [5, 20] _)
    refine su_inv0 (τ := []) (τr := [5]) (ci := 10) (q := (RX10, TX10, 45)) hC WG (M_X10_eatsWord _) rfl rfl rfl rfl  rfl rfl wl_7_71 wl_7_73 wp_83 wl_1_10 wl_7_74 hd_X10_eatsWord (by rw [e3]; decide) (by decide) dX10_readGood_89 (?_ : SdS X 92 [(0, 20), (1, 1), (3, 0), (4, 0), (5, 0), (6, 0), (7, 0)] [0] _)
    refine su_istore (Γ' := [(0, 20), (1, 1), (3, 0), (4, 0), (5, 0), (6, 0), (7, 0), (8, 0)]) hC dX10_readGood_92 (by rw [e2]; decide) (by decide) (?_ : SdS X 94 [(0, 20), (1, 1), (3, 0), (4, 0), (5, 0), (6, 0), (7, 0), (8, 0)] [] _)
    refine su_aload_n hC 20 dX10_readGood_94 rfl (by decide) (by decide) (?_ : SdS X 95 [(0, 20), (1, 1), (3, 0), (4, 0), (5, 0), (6, 0), (7, 0), (8, 0)] [20] _)
    refine su_ldcS hC (tx0 := "holy") (i := 8) rfl (by decide) (by decide) dX10_readGood_95 (?_ : SdS X 97 [(0, 20), (1, 1), (3, 0), (4, 0), (5, 0), (6, 0), (7, 0), (8, 0)] [5, 20] _)
    refine su_inv0 (τ := []) (τr := [5]) (ci := 10) (q := (RX10, TX10, 45)) hC WG (M_X10_eatsWord _) rfl rfl rfl rfl  rfl rfl wl_7_71 wl_7_73 wp_83 wl_1_10 wl_7_74 hd_X10_eatsWord (by rw [e3]; decide) (by decide) dX10_readGood_97 (?_ : SdS X 100 [(0, 20), (1, 1), (3, 0), (4, 0), (5, 0), (6, 0), (7, 0), (8, 0)] [0] _)
    refine su_istore (Γ' := [(0, 20), (1, 1), (3, 0), (4, 0), (5, 0), (6, 0), (7, 0), (8, 0), (9, 0)]) hC dX10_readGood_100 (by rw [e2]; decide) (by decide) (?_ : SdS X 102 [(0, 20), (1, 1), (3, 0), (4, 0), (5, 0), (6, 0), (7, 0), (8, 0), (9, 0)] [] _)
    refine su_aload_n hC 20 dX10_readGood_102 rfl (by decide) (by decide) (?_ : SdS X 103 [(0, 20), (1, 1), (3, 0), (4, 0), (5, 0), (6, 0), (7, 0), (8, 0), (9, 0)] [20] _)
    refine su_getF hC (ci := 10) (j := 9) (C := RX10) (T := TX10) (N := 45) rfl rfl (by decide) in_X10 wl_5_173 rfl dX10_readGood_103 (?_ : SdS X 106 [(0, 20), (1, 1), (3, 0), (4, 0), (5, 0), (6, 0), (7, 0), (8, 0), (9, 0)] [0] _)
    refine su_iconst hC dX10_readGood_106 ⟨by decide, by decide⟩ (?_ : SdS X 107 [(0, 20), (1, 1), (3, 0), (4, 0), (5, 0), (6, 0), (7, 0), (8, 0), (9, 0)] [0, 0] _)
    refine su_icmp_ne (tgt := 111) hC dX10_readGood_107 rfl (?_ : SdS X 111 [(0, 20), (1, 1), (3, 0), (4, 0), (5, 0), (6, 0), (7, 0), (8, 0), (9, 0)] [] _) (?_ : SdS X 110 [(0, 20), (1, 1), (3, 0), (4, 0), (5, 0), (6, 0), (7, 0), (8, 0), (9, 0)] [] _)
    · refine su_aload_n hC 20 dX10_readGood_111 rfl (by decide) (by decide) (?_ : SdS X 112 [(0, 20), (1, 1), (3, 0), (4, 0), (5, 0), (6, 0), (7, 0), (8, 0), (9, 0)] [20] _)
      refine su_getR hC (ci := 10) (j := 4) (C := RX10) (T := TX10) (N := 45) rfl rfl (by decide) in_X10 wl_5_168 rfl dX10_readGood_112 (?_ : SdS X 115 [(0, 20), (1, 1), (3, 0), (4, 0), (5, 0), (6, 0), (7, 0), (8, 0), (9, 0)] [19] _)
      refine su_getFN hC (ci := 9) (j := 3) (C := RX9) (T := TX9) (N := 28) (host := "NarrowRingsModel") rfl rfl (by decide) in_X9 (by decide) rfl dX10_readGood_115 (?_ : SdS X 118 [(0, 20), (1, 1), (3, 0), (4, 0), (5, 0), (6, 0), (7, 0), (8, 0), (9, 0)] [0] _)
      refine su_istore (Γ' := [(0, 20), (1, 1), (3, 0), (4, 0), (5, 0), (6, 0), (7, 0), (8, 0), (9, 0), (10, 0)]) hC dX10_readGood_118 (by rw [e2]; decide) (by decide) (?_ : SdS X 120 [(0, 20), (1, 1), (3, 0), (4, 0), (5, 0), (6, 0), (7, 0), (8, 0), (9, 0), (10, 0)] [] _)
      refine su_aload_n hC 20 dX10_readGood_120 rfl (by decide) (by decide) (?_ : SdS X 121 [(0, 20), (1, 1), (3, 0), (4, 0), (5, 0), (6, 0), (7, 0), (8, 0), (9, 0), (10, 0)] [20] _)
      refine su_getR hC (ci := 10) (j := 4) (C := RX10) (T := TX10) (N := 45) rfl rfl (by decide) in_X10 wl_5_168 rfl dX10_readGood_121 (?_ : SdS X 124 [(0, 20), (1, 1), (3, 0), (4, 0), (5, 0), (6, 0), (7, 0), (8, 0), (9, 0), (10, 0)] [19] _)
      refine su_lload_n hC dX10_readGood_124 rfl (by decide) (?_ : SdS X 125 [(0, 20), (1, 1), (3, 0), (4, 0), (5, 0), (6, 0), (7, 0), (8, 0), (9, 0), (10, 0)] [1, 19] _)
      refine su_iload hC dX10_readGood_125 (by decide) (?_ : SdS X 127 [(0, 20), (1, 1), (3, 0), (4, 0), (5, 0), (6, 0), (7, 0), (8, 0), (9, 0), (10, 0)] [0, 1, 19] _)
      refine su_inv0v (τ := []) (τr := [1, 0]) (ci := 9) (q := (RX9, TX9, 28)) hC WG (M_X9_adds _) rfl rfl rfl rfl  rfl rfl wl_7_47 wl_7_48 wl_7_49 wl_1_17 wl_7_50 hd_X9_adds (by rw [e3]; decide) (by decide) dX10_readGood_127 (?_ : SdS X 130 [(0, 20), (1, 1), (3, 0), (4, 0), (5, 0), (6, 0), (7, 0), (8, 0), (9, 0), (10, 0)] [] _)
      refine su_aload_n hC 20 dX10_readGood_130 rfl (by decide) (by decide) (?_ : SdS X 131 [(0, 20), (1, 1), (3, 0), (4, 0), (5, 0), (6, 0), (7, 0), (8, 0), (9, 0), (10, 0)] [20] _)
      refine su_getR hC (ci := 10) (j := 4) (C := RX10) (T := TX10) (N := 45) rfl rfl (by decide) in_X10 wl_5_168 rfl dX10_readGood_131 (?_ : SdS X 134 [(0, 20), (1, 1), (3, 0), (4, 0), (5, 0), (6, 0), (7, 0), (8, 0), (9, 0), (10, 0)] [19] _)
      refine su_getRN hC (ci := 9) (j := 15) (C := RX9) (T := TX9) (N := 28) (host := "NarrowRingsModel") rfl rfl (by decide) in_X9 (by decide) rfl dX10_readGood_134 (?_ : SdS X 137 [(0, 20), (1, 1), (3, 0), (4, 0), (5, 0), (6, 0), (7, 0), (8, 0), (9, 0), (10, 0)] [100] _)
      refine su_iload hC dX10_readGood_137 (by decide) (?_ : SdS X 139 [(0, 20), (1, 1), (3, 0), (4, 0), (5, 0), (6, 0), (7, 0), (8, 0), (9, 0), (10, 0)] [0, 100] _)
      refine su_iload_n hC dX10_readGood_139 rfl (by decide) (?_ : SdS X 140 [(0, 20), (1, 1), (3, 0), (4, 0), (5, 0), (6, 0), (7, 0), (8, 0), (9, 0), (10, 0)] [0, 0, 100] _)
      refine su_iastore hC dX10_readGood_140 (?_ : SdS X 141 [(0, 20), (1, 1), (3, 0), (4, 0), (5, 0), (6, 0), (7, 0), (8, 0), (9, 0), (10, 0)] [] _)
      refine su_aload_n hC 20 dX10_readGood_141 rfl (by decide) (by decide) (?_ : SdS X 142 [(0, 20), (1, 1), (3, 0), (4, 0), (5, 0), (6, 0), (7, 0), (8, 0), (9, 0), (10, 0)] [20] _)
      refine su_getR hC (ci := 10) (j := 4) (C := RX10) (T := TX10) (N := 45) rfl rfl (by decide) in_X10 wl_5_168 rfl dX10_readGood_142 (?_ : SdS X 145 [(0, 20), (1, 1), (3, 0), (4, 0), (5, 0), (6, 0), (7, 0), (8, 0), (9, 0), (10, 0)] [19] _)
      refine su_getRN hC (ci := 9) (j := 16) (C := RX9) (T := TX9) (N := 28) (host := "NarrowRingsModel") rfl rfl (by decide) in_X9 (by decide) rfl dX10_readGood_145 (?_ : SdS X 148 [(0, 20), (1, 1), (3, 0), (4, 0), (5, 0), (6, 0), (7, 0), (8, 0), (9, 0), (10, 0)] [100] _)
      refine su_iload hC dX10_readGood_148 (by decide) (?_ : SdS X 150 [(0, 20), (1, 1), (3, 0), (4, 0), (5, 0), (6, 0), (7, 0), (8, 0), (9, 0), (10, 0)] [0, 100] _)
      refine su_iload hC dX10_readGood_150 (by decide) (?_ : SdS X 152 [(0, 20), (1, 1), (3, 0), (4, 0), (5, 0), (6, 0), (7, 0), (8, 0), (9, 0), (10, 0)] [0, 0, 100] _)
      refine su_iastore hC dX10_readGood_152 (?_ : SdS X 153 [(0, 20), (1, 1), (3, 0), (4, 0), (5, 0), (6, 0), (7, 0), (8, 0), (9, 0), (10, 0)] [] _)
      refine su_aload_n hC 20 dX10_readGood_153 rfl (by decide) (by decide) (?_ : SdS X 154 [(0, 20), (1, 1), (3, 0), (4, 0), (5, 0), (6, 0), (7, 0), (8, 0), (9, 0), (10, 0)] [20] _)
      refine su_getR hC (ci := 10) (j := 4) (C := RX10) (T := TX10) (N := 45) rfl rfl (by decide) in_X10 wl_5_168 rfl dX10_readGood_154 (?_ : SdS X 157 [(0, 20), (1, 1), (3, 0), (4, 0), (5, 0), (6, 0), (7, 0), (8, 0), (9, 0), (10, 0)] [19] _)
      refine su_getRN hC (ci := 9) (j := 17) (C := RX9) (T := TX9) (N := 28) (host := "NarrowRingsModel") rfl rfl (by decide) in_X9 (by decide) rfl dX10_readGood_157 (?_ : SdS X 160 [(0, 20), (1, 1), (3, 0), (4, 0), (5, 0), (6, 0), (7, 0), (8, 0), (9, 0), (10, 0)] [100] _)
      refine su_iload hC dX10_readGood_160 (by decide) (?_ : SdS X 162 [(0, 20), (1, 1), (3, 0), (4, 0), (5, 0), (6, 0), (7, 0), (8, 0), (9, 0), (10, 0)] [0, 100] _)
      refine su_iload hC dX10_readGood_162 (by decide) (?_ : SdS X 164 [(0, 20), (1, 1), (3, 0), (4, 0), (5, 0), (6, 0), (7, 0), (8, 0), (9, 0), (10, 0)] [0, 0, 100] _)
      refine su_iastore hC dX10_readGood_164 (?_ : SdS X 165 [(0, 20), (1, 1), (3, 0), (4, 0), (5, 0), (6, 0), (7, 0), (8, 0), (9, 0), (10, 0)] [] _)
      refine su_aload_n hC 20 dX10_readGood_165 rfl (by decide) (by decide) (?_ : SdS X 166 [(0, 20), (1, 1), (3, 0), (4, 0), (5, 0), (6, 0), (7, 0), (8, 0), (9, 0), (10, 0)] [20] _)
      refine su_getR hC (ci := 10) (j := 4) (C := RX10) (T := TX10) (N := 45) rfl rfl (by decide) in_X10 wl_5_168 rfl dX10_readGood_166 (?_ : SdS X 169 [(0, 20), (1, 1), (3, 0), (4, 0), (5, 0), (6, 0), (7, 0), (8, 0), (9, 0), (10, 0)] [19] _)
      refine su_getRN hC (ci := 9) (j := 18) (C := RX9) (T := TX9) (N := 28) (host := "NarrowRingsModel") rfl rfl (by decide) in_X9 (by decide) rfl dX10_readGood_169 (?_ : SdS X 172 [(0, 20), (1, 1), (3, 0), (4, 0), (5, 0), (6, 0), (7, 0), (8, 0), (9, 0), (10, 0)] [100] _)
      refine su_iload hC dX10_readGood_172 (by decide) (?_ : SdS X 174 [(0, 20), (1, 1), (3, 0), (4, 0), (5, 0), (6, 0), (7, 0), (8, 0), (9, 0), (10, 0)] [0, 100] _)
      refine su_iload hC dX10_readGood_174 (by decide) (?_ : SdS X 176 [(0, 20), (1, 1), (3, 0), (4, 0), (5, 0), (6, 0), (7, 0), (8, 0), (9, 0), (10, 0)] [0, 0, 100] _)
      refine su_iastore hC dX10_readGood_176 (?_ : SdS X 177 [(0, 20), (1, 1), (3, 0), (4, 0), (5, 0), (6, 0), (7, 0), (8, 0), (9, 0), (10, 0)] [] _)
      refine su_aload_n hC 20 dX10_readGood_177 rfl (by decide) (by decide) (?_ : SdS X 178 [(0, 20), (1, 1), (3, 0), (4, 0), (5, 0), (6, 0), (7, 0), (8, 0), (9, 0), (10, 0)] [20] _)
      refine su_getR hC (ci := 10) (j := 4) (C := RX10) (T := TX10) (N := 45) rfl rfl (by decide) in_X10 wl_5_168 rfl dX10_readGood_178 (?_ : SdS X 181 [(0, 20), (1, 1), (3, 0), (4, 0), (5, 0), (6, 0), (7, 0), (8, 0), (9, 0), (10, 0)] [19] _)
      refine su_getRN hC (ci := 9) (j := 19) (C := RX9) (T := TX9) (N := 28) (host := "NarrowRingsModel") rfl rfl (by decide) in_X9 (by decide) rfl dX10_readGood_181 (?_ : SdS X 184 [(0, 20), (1, 1), (3, 0), (4, 0), (5, 0), (6, 0), (7, 0), (8, 0), (9, 0), (10, 0)] [100] _)
      refine su_iload hC dX10_readGood_184 (by decide) (?_ : SdS X 186 [(0, 20), (1, 1), (3, 0), (4, 0), (5, 0), (6, 0), (7, 0), (8, 0), (9, 0), (10, 0)] [0, 100] _)
      refine su_iload hC dX10_readGood_186 (by decide) (?_ : SdS X 188 [(0, 20), (1, 1), (3, 0), (4, 0), (5, 0), (6, 0), (7, 0), (8, 0), (9, 0), (10, 0)] [0, 0, 100] _)
      refine su_iastore hC dX10_readGood_188 (?_ : SdS X 189 [(0, 20), (1, 1), (3, 0), (4, 0), (5, 0), (6, 0), (7, 0), (8, 0), (9, 0), (10, 0)] [] _)
      refine su_aload_n hC 20 dX10_readGood_189 rfl (by decide) (by decide) (?_ : SdS X 190 [(0, 20), (1, 1), (3, 0), (4, 0), (5, 0), (6, 0), (7, 0), (8, 0), (9, 0), (10, 0)] [20] _)
      refine su_getR hC (ci := 10) (j := 4) (C := RX10) (T := TX10) (N := 45) rfl rfl (by decide) in_X10 wl_5_168 rfl dX10_readGood_190 (?_ : SdS X 193 [(0, 20), (1, 1), (3, 0), (4, 0), (5, 0), (6, 0), (7, 0), (8, 0), (9, 0), (10, 0)] [19] _)
      refine su_getRN hC (ci := 9) (j := 10) (C := RX9) (T := TX9) (N := 28) (host := "NarrowRingsModel") rfl rfl (by decide) in_X9 (by decide) rfl dX10_readGood_193 (?_ : SdS X 196 [(0, 20), (1, 1), (3, 0), (4, 0), (5, 0), (6, 0), (7, 0), (8, 0), (9, 0), (10, 0)] [103] _)
      refine su_iload hC dX10_readGood_196 (by decide) (?_ : SdS X 198 [(0, 20), (1, 1), (3, 0), (4, 0), (5, 0), (6, 0), (7, 0), (8, 0), (9, 0), (10, 0)] [0, 103] _)
      refine su_iload hC dX10_readGood_198 (by decide) (?_ : SdS X 200 [(0, 20), (1, 1), (3, 0), (4, 0), (5, 0), (6, 0), (7, 0), (8, 0), (9, 0), (10, 0)] [0, 0, 103] _)
      refine su_zastore hC dX10_readGood_200 (?_ : SdS X 201 [(0, 20), (1, 1), (3, 0), (4, 0), (5, 0), (6, 0), (7, 0), (8, 0), (9, 0), (10, 0)] [] _)
      refine su_aload_n hC 20 dX10_readGood_201 rfl (by decide) (by decide) (?_ : SdS X 202 [(0, 20), (1, 1), (3, 0), (4, 0), (5, 0), (6, 0), (7, 0), (8, 0), (9, 0), (10, 0)] [20] _)
      refine su_getR hC (ci := 10) (j := 4) (C := RX10) (T := TX10) (N := 45) rfl rfl (by decide) in_X10 wl_5_168 rfl dX10_readGood_202 (?_ : SdS X 205 [(0, 20), (1, 1), (3, 0), (4, 0), (5, 0), (6, 0), (7, 0), (8, 0), (9, 0), (10, 0)] [19] _)
      refine su_getRN hC (ci := 9) (j := 11) (C := RX9) (T := TX9) (N := 28) (host := "NarrowRingsModel") rfl rfl (by decide) in_X9 (by decide) rfl dX10_readGood_205 (?_ : SdS X 208 [(0, 20), (1, 1), (3, 0), (4, 0), (5, 0), (6, 0), (7, 0), (8, 0), (9, 0), (10, 0)] [103] _)
      refine su_iload hC dX10_readGood_208 (by decide) (?_ : SdS X 210 [(0, 20), (1, 1), (3, 0), (4, 0), (5, 0), (6, 0), (7, 0), (8, 0), (9, 0), (10, 0)] [0, 103] _)
      refine su_iload hC dX10_readGood_210 (by decide) (?_ : SdS X 212 [(0, 20), (1, 1), (3, 0), (4, 0), (5, 0), (6, 0), (7, 0), (8, 0), (9, 0), (10, 0)] [0, 0, 103] _)
      refine su_zastore hC dX10_readGood_212 (?_ : SdS X 213 [(0, 20), (1, 1), (3, 0), (4, 0), (5, 0), (6, 0), (7, 0), (8, 0), (9, 0), (10, 0)] [] _)
      refine su_aload_n hC 20 dX10_readGood_213 rfl (by decide) (by decide) (?_ : SdS X 214 [(0, 20), (1, 1), (3, 0), (4, 0), (5, 0), (6, 0), (7, 0), (8, 0), (9, 0), (10, 0)] [20] _)
      refine su_getR hC (ci := 10) (j := 4) (C := RX10) (T := TX10) (N := 45) rfl rfl (by decide) in_X10 wl_5_168 rfl dX10_readGood_214 (?_ : SdS X 217 [(0, 20), (1, 1), (3, 0), (4, 0), (5, 0), (6, 0), (7, 0), (8, 0), (9, 0), (10, 0)] [19] _)
      refine su_dup hC (by decide) dX10_readGood_217 (?_ : SdS X 218 [(0, 20), (1, 1), (3, 0), (4, 0), (5, 0), (6, 0), (7, 0), (8, 0), (9, 0), (10, 0)] [19, 19] _)
      refine su_getFN hC (ci := 9) (j := 3) (C := RX9) (T := TX9) (N := 28) (host := "NarrowRingsModel") rfl rfl (by decide) in_X9 (by decide) rfl dX10_readGood_218 (?_ : SdS X 221 [(0, 20), (1, 1), (3, 0), (4, 0), (5, 0), (6, 0), (7, 0), (8, 0), (9, 0), (10, 0)] [0, 19] _)
      refine su_iconst hC dX10_readGood_221 ⟨by decide, by decide⟩ (?_ : SdS X 222 [(0, 20), (1, 1), (3, 0), (4, 0), (5, 0), (6, 0), (7, 0), (8, 0), (9, 0), (10, 0)] [0, 0, 19] _)
      refine su_iadd hC dX10_readGood_222 (?_ : SdS X 223 [(0, 20), (1, 1), (3, 0), (4, 0), (5, 0), (6, 0), (7, 0), (8, 0), (9, 0), (10, 0)] [0, 19] _)
      refine su_putFN hC (ci := 9) (j := 3) (C := RX9) (T := TX9) (N := 28) (host := "NarrowRingsModel") tyX9 tyX9_ok nmX9 rfl rfl (by decide) in_X9 rfl rfl (by decide) rfl dX10_readGood_223 (?_ : SdS X 226 [(0, 20), (1, 1), (3, 0), (4, 0), (5, 0), (6, 0), (7, 0), (8, 0), (9, 0), (10, 0)] [] _)
      exact su_return hC hT dX10_readGood_226
    · exact su_return hC hT dX10_readGood_110
  refine (?_ : SdS X 0 [(0, 20)] [] (E_X10_readGood Q))
  unfold E_X10_readGood
  refine su_aload_n hC 20 dX10_readGood_0 rfl (by decide) (by decide) (?_ : SdS X 1 [(0, 20)] [20] _)
  refine su_aload_n hC 20 dX10_readGood_1 rfl (by decide) (by decide) (?_ : SdS X 2 [(0, 20)] [20, 20] _)
  refine su_getR hC (ci := 10) (j := 4) (C := RX10) (T := TX10) (N := 45) rfl rfl (by decide) in_X10 wl_5_168 rfl dX10_readGood_2 (?_ : SdS X 5 [(0, 20)] [19, 20] _)
  refine su_getFN hC (ci := 9) (j := 3) (C := RX9) (T := TX9) (N := 28) (host := "NarrowRingsModel") rfl rfl (by decide) in_X9 (by decide) rfl dX10_readGood_5 (?_ : SdS X 8 [(0, 20)] [0, 20] _)
  refine su_bipush hC dX10_readGood_8 (by decide) (?_ : SdS X 10 [(0, 20)] [0, 0, 20] _)
  refine su_iconst hC dX10_readGood_10 ⟨by decide, by decide⟩ (?_ : SdS X 11 [(0, 20)] [0, 0, 0, 20] _)
  refine su_inv0v (τ := []) (τr := [0, 0, 0]) (ci := 10) (q := (RX10, TX10, 45)) hC WG (M_X10_begins _) rfl rfl rfl rfl  rfl rfl wl_7_10 wl_7_12 wp_75 wl_1_10 wl_7_13 hd_X10_begins (by rw [e3]; decide) (by decide) dX10_readGood_11 (?_ : SdS X 14 [(0, 20)] [] _)
  refine su_aload_n hC 20 dX10_readGood_14 rfl (by decide) (by decide) (?_ : SdS X 15 [(0, 20)] [20] _)
  refine su_inv0 (τ := []) (τr := []) (ci := 10) (q := (RX10, TX10, 45)) hC WG (M_X10_readFresh _) rfl rfl rfl rfl  rfl rfl wl_7_14 wl_7_16 wp_76 wl_1_10 wl_7_17 hd_X10_readFresh (by rw [e3]; decide) (by decide) dX10_readGood_15 (?_ : SdS X 18 [(0, 20)] [1] _)
  refine su_lstore_n (Γ' := [(0, 20), (1, 1)]) hC dX10_readGood_18 rfl (by rw [e2]; decide) (by decide) (?_ : SdS X 19 [(0, 20), (1, 1)] [] _)
  refine su_aload_n hC 20 dX10_readGood_19 rfl (by decide) (by decide) (?_ : SdS X 20 [(0, 20), (1, 1)] [20] _)
  refine su_ldc_wS hC (tx0 := "long") (i := 18) rfl (by decide) (by decide) dX10_readGood_20 (?_ : SdS X 23 [(0, 20), (1, 1)] [5, 20] _)
  refine su_iconst hC dX10_readGood_23 ⟨by decide, by decide⟩ (?_ : SdS X 24 [(0, 20), (1, 1)] [0, 5, 20] _)
  refine su_bipush hC dX10_readGood_24 (by decide) (?_ : SdS X 26 [(0, 20), (1, 1)] [0, 0, 5, 20] _)
  refine su_inv0 (τ := []) (τr := [5, 0, 0]) (ci := 10) (q := (RX10, TX10, 45)) hC WG (M_X10_readPart _) rfl rfl rfl rfl  rfl rfl wl_7_34 wl_7_36 wp_78 wl_1_10 wl_7_37 hd_X10_readPart (by rw [e3]; decide) (by decide) dX10_readGood_26 (?_ : SdS X 29 [(0, 20), (1, 1)] [0] _)
  refine su_istore_n (Γ' := [(0, 20), (1, 1), (3, 0)]) hC dX10_readGood_29 rfl (by rw [e2]; decide) (by decide) (?_ : SdS X 30 [(0, 20), (1, 1), (3, 0)] [] _)
  refine su_aload_n hC 20 dX10_readGood_30 rfl (by decide) (by decide) (?_ : SdS X 31 [(0, 20), (1, 1), (3, 0)] [20] _)
  refine su_ldcS hC (tx0 := "wide") (i := 11) rfl (by decide) (by decide) dX10_readGood_31 (?_ : SdS X 33 [(0, 20), (1, 1), (3, 0)] [5, 20] _)
  refine su_iconst hC dX10_readGood_33 ⟨by decide, by decide⟩ (?_ : SdS X 34 [(0, 20), (1, 1), (3, 0)] [0, 5, 20] _)
  refine su_bipush hC dX10_readGood_34 (by decide) (?_ : SdS X 36 [(0, 20), (1, 1), (3, 0)] [0, 0, 5, 20] _)
  refine su_inv0 (τ := []) (τr := [5, 0, 0]) (ci := 10) (q := (RX10, TX10, 45)) hC WG (M_X10_readPart _) rfl rfl rfl rfl  rfl rfl wl_7_34 wl_7_36 wp_78 wl_1_10 wl_7_37 hd_X10_readPart (by rw [e3]; decide) (by decide) dX10_readGood_36 (?_ : SdS X 39 [(0, 20), (1, 1), (3, 0)] [0] _)
  refine su_istore (Γ' := [(0, 20), (1, 1), (3, 0), (4, 0)]) hC dX10_readGood_39 (by rw [e2]; decide) (by decide) (?_ : SdS X 41 [(0, 20), (1, 1), (3, 0), (4, 0)] [] _)
  refine su_aload_n hC 20 dX10_readGood_41 rfl (by decide) (by decide) (?_ : SdS X 42 [(0, 20), (1, 1), (3, 0), (4, 0)] [20] _)
  refine su_ldcS hC (tx0 := "high") (i := 12) rfl (by decide) (by decide) dX10_readGood_42 (?_ : SdS X 44 [(0, 20), (1, 1), (3, 0), (4, 0)] [5, 20] _)
  refine su_iconst hC dX10_readGood_44 ⟨by decide, by decide⟩ (?_ : SdS X 45 [(0, 20), (1, 1), (3, 0), (4, 0)] [0, 5, 20] _)
  refine su_bipush hC dX10_readGood_45 (by decide) (?_ : SdS X 47 [(0, 20), (1, 1), (3, 0), (4, 0)] [0, 0, 5, 20] _)
  refine su_inv0 (τ := []) (τr := [5, 0, 0]) (ci := 10) (q := (RX10, TX10, 45)) hC WG (M_X10_readPart _) rfl rfl rfl rfl  rfl rfl wl_7_34 wl_7_36 wp_78 wl_1_10 wl_7_37 hd_X10_readPart (by rw [e3]; decide) (by decide) dX10_readGood_47 (?_ : SdS X 50 [(0, 20), (1, 1), (3, 0), (4, 0)] [0] _)
  refine su_istore (Γ' := [(0, 20), (1, 1), (3, 0), (4, 0), (5, 0)]) hC dX10_readGood_50 (by rw [e2]; decide) (by decide) (?_ : SdS X 52 [(0, 20), (1, 1), (3, 0), (4, 0), (5, 0)] [] _)
  refine su_aload_n hC 20 dX10_readGood_52 rfl (by decide) (by decide) (?_ : SdS X 53 [(0, 20), (1, 1), (3, 0), (4, 0), (5, 0)] [20] _)
  refine su_ldc_wS hC (tx0 := "weighs") (i := 19) rfl (by decide) (by decide) dX10_readGood_53 (?_ : SdS X 56 [(0, 20), (1, 1), (3, 0), (4, 0), (5, 0)] [5, 20] _)
  refine su_iconst hC dX10_readGood_56 ⟨by decide, by decide⟩ (?_ : SdS X 57 [(0, 20), (1, 1), (3, 0), (4, 0), (5, 0)] [0, 5, 20] _)
  refine su_bipush hC dX10_readGood_57 (by decide) (?_ : SdS X 59 [(0, 20), (1, 1), (3, 0), (4, 0), (5, 0)] [0, 0, 5, 20] _)
  refine su_inv0 (τ := []) (τr := [5, 0, 0]) (ci := 10) (q := (RX10, TX10, 45)) hC WG (M_X10_readPart _) rfl rfl rfl rfl  rfl rfl wl_7_34 wl_7_36 wp_78 wl_1_10 wl_7_37 hd_X10_readPart (by rw [e3]; decide) (by decide) dX10_readGood_59 (?_ : SdS X 62 [(0, 20), (1, 1), (3, 0), (4, 0), (5, 0)] [0] _)
  refine su_istore (Γ' := [(0, 20), (1, 1), (3, 0), (4, 0), (5, 0), (6, 0)]) hC dX10_readGood_62 (by rw [e2]; decide) (by decide) (?_ : SdS X 64 [(0, 20), (1, 1), (3, 0), (4, 0), (5, 0), (6, 0)] [] _)
  refine su_aload_n hC 20 dX10_readGood_64 rfl (by decide) (by decide) (?_ : SdS X 65 [(0, 20), (1, 1), (3, 0), (4, 0), (5, 0), (6, 0)] [20] _)
  refine su_ldcS hC (tx0 := "parts") (i := 6) rfl (by decide) (by decide) dX10_readGood_65 (?_ : SdS X 67 [(0, 20), (1, 1), (3, 0), (4, 0), (5, 0), (6, 0)] [5, 20] _)
  refine su_inv0 (τ := []) (τr := [5]) (ci := 10) (q := (RX10, TX10, 45)) hC WG (M_X10_eatsWord _) rfl rfl rfl rfl  rfl rfl wl_7_71 wl_7_73 wp_83 wl_1_10 wl_7_74 hd_X10_eatsWord (by rw [e3]; decide) (by decide) dX10_readGood_67 (?_ : SdS X 70 [(0, 20), (1, 1), (3, 0), (4, 0), (5, 0), (6, 0)] [0] _)
  refine su_if_eq (tgt := 83) hC dX10_readGood_70 rfl (?_ : SdS X 83 [(0, 20), (1, 1), (3, 0), (4, 0), (5, 0), (6, 0)] [] _) (?_ : SdS X 73 [(0, 20), (1, 1), (3, 0), (4, 0), (5, 0), (6, 0)] [] _)
  · refine su_iconst hC dX10_readGood_83 ⟨by decide, by decide⟩ (?_ : SdS X 84 [(0, 20), (1, 1), (3, 0), (4, 0), (5, 0), (6, 0)] [0] _)
    exact SdS.weak (by decide) (S_84)
  · refine su_aload_n hC 20 dX10_readGood_73 rfl (by decide) (by decide) (?_ : SdS X 74 [(0, 20), (1, 1), (3, 0), (4, 0), (5, 0), (6, 0)] [20] _)
    refine su_iconst hC dX10_readGood_74 ⟨by decide, by decide⟩ (?_ : SdS X 75 [(0, 20), (1, 1), (3, 0), (4, 0), (5, 0), (6, 0)] [0, 20] _)
    refine su_bipush hC dX10_readGood_75 (by decide) (?_ : SdS X 77 [(0, 20), (1, 1), (3, 0), (4, 0), (5, 0), (6, 0)] [0, 0, 20] _)
    refine su_inv0 (τ := []) (τr := [0, 0]) (ci := 10) (q := (RX10, TX10, 45)) hC WG (M_X10_readWhole _) rfl rfl rfl rfl  rfl rfl wl_6_230 wl_6_232 wp_71 wl_1_10 wl_6_233 hd_X10_readWhole (by rw [e3]; decide) (by decide) dX10_readGood_77 (?_ : SdS X 80 [(0, 20), (1, 1), (3, 0), (4, 0), (5, 0), (6, 0)] [0] _)
    refine su_goto (tgt := 84) hC dX10_readGood_80 rfl (?_ : SdS X 84 [(0, 20), (1, 1), (3, 0), (4, 0), (5, 0), (6, 0)] [0] _)
    exact SdS.weak (by decide) (S_84)
theorem hd_X10_needsSign : yX10_needsSign.cls ≠ "java/lang/invoke/MethodHandle" ∧ yX10_needsSign.cls ≠ "java/lang/invoke/VarHandle" ∧ (parseMethodDescriptor yX10_needsSign.desc).map (fun d => d.parameters.length) = some 1 := by decide +kernel
set_option maxRecDepth 100000 in
set_option maxHeartbeats 4000000 in
theorem M_X10_needsSign (l : Launch) : MtS l yX10_needsSign (Cond.code yX10_needsSign cX10_needsSign 2 none :: WALL) { frames := 2, cells := 0, slots := 0, locals := 43 } [20, 0] none T_X10_needsSign := by
  refine MtS.mk (B := E_X10_needsSign) (by decide +kernel) (by decide) (fun _ _ _ hh => hh) ?_
  intro X Q e1 e2 e3 hC hN hT
  subst e1
  have hC : CF X cX10_needsSign RX10 WALL := hC
  have S_21 : SdS X 21 [(0, 20), (1, 0)] [] (B_X10_needsSign_21 Q) := by
    unfold B_X10_needsSign_21
    refine su_aload_n hC 20 dX10_needsSign_21 rfl (by decide) (by decide) (?_ : SdS X 22 [(0, 20), (1, 0)] [20] _)
    refine su_inv0v (τ := []) (τr := []) (ci := 10) (q := (RX10, TX10, 45)) hC WG (M_X10_goesOn _) rfl rfl rfl rfl  rfl rfl wl_6_189 wl_6_191 wp_64 wl_1_10 wl_6_192 hd_X10_goesOn (by rw [e3]; decide) (by decide) dX10_needsSign_22 (?_ : SdS X 25 [(0, 20), (1, 0)] [] _)
    exact su_return hC hT dX10_needsSign_25
  have S_16 : SdS X 16 [(0, 20), (1, 0)] [] (B_X10_needsSign_16 Q) := by
    unfold B_X10_needsSign_16
    refine su_aload_n hC 20 dX10_needsSign_16 rfl (by decide) (by decide) (?_ : SdS X 17 [(0, 20), (1, 0)] [20] _)
    refine su_iconst hC dX10_needsSign_17 ⟨by decide, by decide⟩ (?_ : SdS X 18 [(0, 20), (1, 0)] [0, 20] _)
    refine su_inv0v (τ := []) (τr := [0]) (ci := 10) (q := (RX10, TX10, 45)) hC WG (M_X10_wrong _) rfl rfl rfl rfl  rfl rfl wl_6_226 wl_6_228 wp_70 wl_1_10 wl_6_229 hd_X10_wrong (by rw [e3]; decide) (by decide) dX10_needsSign_18 (?_ : SdS X 21 [(0, 20), (1, 0)] [] _)
    exact SdS.weak (by decide) (S_21)
  refine (?_ : SdS X 0 [(0, 20), (1, 0)] [] (E_X10_needsSign Q))
  unfold E_X10_needsSign
  refine su_aload_n hC 20 dX10_needsSign_0 rfl (by decide) (by decide) (?_ : SdS X 1 [(0, 20), (1, 0)] [20] _)
  refine su_getF hC (ci := 10) (j := 9) (C := RX10) (T := TX10) (N := 45) rfl rfl (by decide) in_X10 wl_5_173 rfl dX10_needsSign_1 (?_ : SdS X 4 [(0, 20), (1, 0)] [0] _)
  refine su_iconst hC dX10_needsSign_4 ⟨by decide, by decide⟩ (?_ : SdS X 5 [(0, 20), (1, 0)] [0, 0] _)
  refine su_icmp_ne (tgt := 16) hC dX10_needsSign_5 rfl (?_ : SdS X 16 [(0, 20), (1, 0)] [] _) (?_ : SdS X 8 [(0, 20), (1, 0)] [] _)
  · exact SdS.weak (by decide) (S_16)
  · refine su_aload_n hC 20 dX10_needsSign_8 rfl (by decide) (by decide) (?_ : SdS X 9 [(0, 20), (1, 0)] [20] _)
    refine su_getF hC (ci := 10) (j := 11) (C := RX10) (T := TX10) (N := 45) rfl rfl (by decide) in_X10 wl_5_175 rfl dX10_needsSign_9 (?_ : SdS X 12 [(0, 20), (1, 0)] [0] _)
    refine su_iload_n hC dX10_needsSign_12 rfl (by decide) (?_ : SdS X 13 [(0, 20), (1, 0)] [0, 0] _)
    refine su_icmp_eq (tgt := 21) hC dX10_needsSign_13 rfl (?_ : SdS X 21 [(0, 20), (1, 0)] [] _) (?_ : SdS X 16 [(0, 20), (1, 0)] [] _)
    · exact SdS.weak (by decide) (S_21)
    · exact SdS.weak (by decide) (S_16)
theorem wl_7_81 : Cond.methodLink RX10 306 yX10_needsSign ∈ WALL := tb7 (List.mem_of_getElem? (i := 81) rfl) rfl
theorem wl_7_83 : Cond.instanceMethod yX10_needsSign ∈ WALL := tb7 (List.mem_of_getElem? (i := 83) rfl) rfl
theorem wp_85 : Cond.selects RX10 yX10_needsSign yX10_needsSign ∈ WALL := tbS (List.mem_of_getElem? (i := 85) rfl)
theorem wl_7_84 : Cond.code yX10_needsSign cX10_needsSign 2 none ∈ WALL := tb7 (List.mem_of_getElem? (i := 84) rfl) rfl
theorem hd_X10_readOrder : yX10_readOrder.cls ≠ "java/lang/invoke/MethodHandle" ∧ yX10_readOrder.cls ≠ "java/lang/invoke/VarHandle" ∧ (parseMethodDescriptor yX10_readOrder.desc).map (fun d => d.parameters.length) = some 0 := by decide +kernel
set_option maxRecDepth 100000 in
set_option maxHeartbeats 4000000 in
theorem M_X10_readOrder (l : Launch) : MtS l yX10_readOrder (Cond.code yX10_readOrder cX10_readOrder 11 none :: WALL) { frames := 8, cells := 0, slots := 0, locals := 173 } [20] none T_X10_readOrder := by
  refine MtS.mk (B := E_X10_readOrder) (by decide +kernel) (by decide) (fun _ _ _ hh => hh) ?_
  intro X Q e1 e2 e3 hC hN hT
  subst e1
  have hC : CF X cX10_readOrder RX10 WALL := hC
  have S_94 : SdS X 94 [(0, 20), (1, 1), (3, 0)] [0] (B_X10_readOrder_94 Q) := by
    unfold B_X10_readOrder_94
    refine su_istore (Γ' := [(0, 20), (1, 1), (3, 0), (4, 0)]) hC dX10_readOrder_94 (by rw [e2]; decide) (by decide) (?_ : SdS X 96 [(0, 20), (1, 1), (3, 0), (4, 0)] [] _)
    refine su_aload_n hC 20 dX10_readOrder_96 rfl (by decide) (by decide) (?_ : SdS X 97 [(0, 20), (1, 1), (3, 0), (4, 0)] [20] _)
    refine su_inv0v (τ := []) (τr := []) (ci := 10) (q := (RX10, TX10, 45)) hC WG (M_X10_goesOn _) rfl rfl rfl rfl  rfl rfl wl_6_189 wl_6_191 wp_64 wl_1_10 wl_6_192 hd_X10_goesOn (by rw [e3]; decide) (by decide) dX10_readOrder_97 (?_ : SdS X 100 [(0, 20), (1, 1), (3, 0), (4, 0)] [] _)
    refine su_aload_n hC 20 dX10_readOrder_100 rfl (by decide) (by decide) (?_ : SdS X 101 [(0, 20), (1, 1), (3, 0), (4, 0)] [20] _)
    refine su_ldc_wS hC (tx0 := "from") (i := 21) rfl (by decide) (by decide) dX10_readOrder_101 (?_ : SdS X 104 [(0, 20), (1, 1), (3, 0), (4, 0)] [5, 20] _)
    refine su_iconst hC dX10_readOrder_104 ⟨by decide, by decide⟩ (?_ : SdS X 105 [(0, 20), (1, 1), (3, 0), (4, 0)] [0, 5, 20] _)
    refine su_aload_n hC 20 dX10_readOrder_105 rfl (by decide) (by decide) (?_ : SdS X 106 [(0, 20), (1, 1), (3, 0), (4, 0)] [20, 0, 5, 20] _)
    refine su_getR hC (ci := 10) (j := 4) (C := RX10) (T := TX10) (N := 45) rfl rfl (by decide) in_X10 wl_5_168 rfl dX10_readOrder_106 (?_ : SdS X 109 [(0, 20), (1, 1), (3, 0), (4, 0)] [19, 0, 5, 20] _)
    refine su_getFN hC (ci := 9) (j := 0) (C := RX9) (T := TX9) (N := 28) (host := "NarrowRingsModel") rfl rfl (by decide) in_X9 (by decide) rfl dX10_readOrder_109 (?_ : SdS X 112 [(0, 20), (1, 1), (3, 0), (4, 0)] [0, 0, 5, 20] _)
    refine su_iconst hC dX10_readOrder_112 ⟨by decide, by decide⟩ (?_ : SdS X 113 [(0, 20), (1, 1), (3, 0), (4, 0)] [0, 0, 0, 5, 20] _)
    refine su_isub hC dX10_readOrder_113 (?_ : SdS X 114 [(0, 20), (1, 1), (3, 0), (4, 0)] [0, 0, 5, 20] _)
    refine su_inv0 (τ := []) (τr := [5, 0, 0]) (ci := 10) (q := (RX10, TX10, 45)) hC WG (M_X10_readPart _) rfl rfl rfl rfl  rfl rfl wl_7_34 wl_7_36 wp_78 wl_1_10 wl_7_37 hd_X10_readPart (by rw [e3]; decide) (by decide) dX10_readOrder_114 (?_ : SdS X 117 [(0, 20), (1, 1), (3, 0), (4, 0)] [0] _)
    refine su_istore (Γ' := [(0, 20), (1, 1), (3, 0), (4, 0), (5, 0)]) hC dX10_readOrder_117 (by rw [e2]; decide) (by decide) (?_ : SdS X 119 [(0, 20), (1, 1), (3, 0), (4, 0), (5, 0)] [] _)
    refine su_aload_n hC 20 dX10_readOrder_119 rfl (by decide) (by decide) (?_ : SdS X 120 [(0, 20), (1, 1), (3, 0), (4, 0), (5, 0)] [20] _)
    refine su_bipush hC dX10_readOrder_120 (by decide) (?_ : SdS X 122 [(0, 20), (1, 1), (3, 0), (4, 0), (5, 0)] [0, 20] _)
    refine su_inv0v (τ := []) (τr := [0]) (ci := 10) (q := (RX10, TX10, 45)) hC WG (M_X10_needsSign _) rfl rfl rfl rfl  rfl rfl wl_7_81 wl_7_83 wp_85 wl_1_10 wl_7_84 hd_X10_needsSign (by rw [e3]; decide) (by decide) dX10_readOrder_122 (?_ : SdS X 125 [(0, 20), (1, 1), (3, 0), (4, 0), (5, 0)] [] _)
    refine su_aload_n hC 20 dX10_readOrder_125 rfl (by decide) (by decide) (?_ : SdS X 126 [(0, 20), (1, 1), (3, 0), (4, 0), (5, 0)] [20] _)
    refine su_iconst hC dX10_readOrder_126 ⟨by decide, by decide⟩ (?_ : SdS X 127 [(0, 20), (1, 1), (3, 0), (4, 0), (5, 0)] [0, 20] _)
    refine su_bipush hC dX10_readOrder_127 (by decide) (?_ : SdS X 129 [(0, 20), (1, 1), (3, 0), (4, 0), (5, 0)] [0, 0, 20] _)
    refine su_inv0 (τ := []) (τr := [0, 0]) (ci := 10) (q := (RX10, TX10, 45)) hC WG (M_X10_readWhole _) rfl rfl rfl rfl  rfl rfl wl_6_230 wl_6_232 wp_71 wl_1_10 wl_6_233 hd_X10_readWhole (by rw [e3]; decide) (by decide) dX10_readOrder_129 (?_ : SdS X 132 [(0, 20), (1, 1), (3, 0), (4, 0), (5, 0)] [0] _)
    refine su_istore (Γ' := [(0, 20), (1, 1), (3, 0), (4, 0), (5, 0), (6, 0)]) hC dX10_readOrder_132 (by rw [e2]; decide) (by decide) (?_ : SdS X 134 [(0, 20), (1, 1), (3, 0), (4, 0), (5, 0), (6, 0)] [] _)
    refine su_aload_n hC 20 dX10_readOrder_134 rfl (by decide) (by decide) (?_ : SdS X 135 [(0, 20), (1, 1), (3, 0), (4, 0), (5, 0), (6, 0)] [20] _)
    refine su_ldc_wS hC (tx0 := "to") (i := 22) rfl (by decide) (by decide) dX10_readOrder_135 (?_ : SdS X 138 [(0, 20), (1, 1), (3, 0), (4, 0), (5, 0), (6, 0)] [5, 20] _)
    refine su_iconst hC dX10_readOrder_138 ⟨by decide, by decide⟩ (?_ : SdS X 139 [(0, 20), (1, 1), (3, 0), (4, 0), (5, 0), (6, 0)] [0, 5, 20] _)
    refine su_aload_n hC 20 dX10_readOrder_139 rfl (by decide) (by decide) (?_ : SdS X 140 [(0, 20), (1, 1), (3, 0), (4, 0), (5, 0), (6, 0)] [20, 0, 5, 20] _)
    refine su_getR hC (ci := 10) (j := 4) (C := RX10) (T := TX10) (N := 45) rfl rfl (by decide) in_X10 wl_5_168 rfl dX10_readOrder_140 (?_ : SdS X 143 [(0, 20), (1, 1), (3, 0), (4, 0), (5, 0), (6, 0)] [19, 0, 5, 20] _)
    refine su_getFN hC (ci := 9) (j := 0) (C := RX9) (T := TX9) (N := 28) (host := "NarrowRingsModel") rfl rfl (by decide) in_X9 (by decide) rfl dX10_readOrder_143 (?_ : SdS X 146 [(0, 20), (1, 1), (3, 0), (4, 0), (5, 0), (6, 0)] [0, 0, 5, 20] _)
    refine su_iconst hC dX10_readOrder_146 ⟨by decide, by decide⟩ (?_ : SdS X 147 [(0, 20), (1, 1), (3, 0), (4, 0), (5, 0), (6, 0)] [0, 0, 0, 5, 20] _)
    refine su_isub hC dX10_readOrder_147 (?_ : SdS X 148 [(0, 20), (1, 1), (3, 0), (4, 0), (5, 0), (6, 0)] [0, 0, 5, 20] _)
    refine su_inv0 (τ := []) (τr := [5, 0, 0]) (ci := 10) (q := (RX10, TX10, 45)) hC WG (M_X10_readPart _) rfl rfl rfl rfl  rfl rfl wl_7_34 wl_7_36 wp_78 wl_1_10 wl_7_37 hd_X10_readPart (by rw [e3]; decide) (by decide) dX10_readOrder_148 (?_ : SdS X 151 [(0, 20), (1, 1), (3, 0), (4, 0), (5, 0), (6, 0)] [0] _)
    refine su_istore (Γ' := [(0, 20), (1, 1), (3, 0), (4, 0), (5, 0), (6, 0), (7, 0)]) hC dX10_readOrder_151 (by rw [e2]; decide) (by decide) (?_ : SdS X 153 [(0, 20), (1, 1), (3, 0), (4, 0), (5, 0), (6, 0), (7, 0)] [] _)
    refine su_aload_n hC 20 dX10_readOrder_153 rfl (by decide) (by decide) (?_ : SdS X 154 [(0, 20), (1, 1), (3, 0), (4, 0), (5, 0), (6, 0), (7, 0)] [20] _)
    refine su_bipush hC dX10_readOrder_154 (by decide) (?_ : SdS X 156 [(0, 20), (1, 1), (3, 0), (4, 0), (5, 0), (6, 0), (7, 0)] [0, 20] _)
    refine su_inv0v (τ := []) (τr := [0]) (ci := 10) (q := (RX10, TX10, 45)) hC WG (M_X10_needsSign _) rfl rfl rfl rfl  rfl rfl wl_7_81 wl_7_83 wp_85 wl_1_10 wl_7_84 hd_X10_needsSign (by rw [e3]; decide) (by decide) dX10_readOrder_156 (?_ : SdS X 159 [(0, 20), (1, 1), (3, 0), (4, 0), (5, 0), (6, 0), (7, 0)] [] _)
    refine su_aload_n hC 20 dX10_readOrder_159 rfl (by decide) (by decide) (?_ : SdS X 160 [(0, 20), (1, 1), (3, 0), (4, 0), (5, 0), (6, 0), (7, 0)] [20] _)
    refine su_iconst hC dX10_readOrder_160 ⟨by decide, by decide⟩ (?_ : SdS X 161 [(0, 20), (1, 1), (3, 0), (4, 0), (5, 0), (6, 0), (7, 0)] [0, 20] _)
    refine su_bipush hC dX10_readOrder_161 (by decide) (?_ : SdS X 163 [(0, 20), (1, 1), (3, 0), (4, 0), (5, 0), (6, 0), (7, 0)] [0, 0, 20] _)
    refine su_inv0 (τ := []) (τr := [0, 0]) (ci := 10) (q := (RX10, TX10, 45)) hC WG (M_X10_readWhole _) rfl rfl rfl rfl  rfl rfl wl_6_230 wl_6_232 wp_71 wl_1_10 wl_6_233 hd_X10_readWhole (by rw [e3]; decide) (by decide) dX10_readOrder_163 (?_ : SdS X 166 [(0, 20), (1, 1), (3, 0), (4, 0), (5, 0), (6, 0), (7, 0)] [0] _)
    refine su_istore (Γ' := [(0, 20), (1, 1), (3, 0), (4, 0), (5, 0), (6, 0), (7, 0), (8, 0)]) hC dX10_readOrder_166 (by rw [e2]; decide) (by decide) (?_ : SdS X 168 [(0, 20), (1, 1), (3, 0), (4, 0), (5, 0), (6, 0), (7, 0), (8, 0)] [] _)
    refine su_aload_n hC 20 dX10_readOrder_168 rfl (by decide) (by decide) (?_ : SdS X 169 [(0, 20), (1, 1), (3, 0), (4, 0), (5, 0), (6, 0), (7, 0), (8, 0)] [20] _)
    refine su_ldc_wS hC (tx0 := "hour") (i := 23) rfl (by decide) (by decide) dX10_readOrder_169 (?_ : SdS X 172 [(0, 20), (1, 1), (3, 0), (4, 0), (5, 0), (6, 0), (7, 0), (8, 0)] [5, 20] _)
    refine su_iconst hC dX10_readOrder_172 ⟨by decide, by decide⟩ (?_ : SdS X 173 [(0, 20), (1, 1), (3, 0), (4, 0), (5, 0), (6, 0), (7, 0), (8, 0)] [0, 5, 20] _)
    refine su_bipush hC dX10_readOrder_173 (by decide) (?_ : SdS X 175 [(0, 20), (1, 1), (3, 0), (4, 0), (5, 0), (6, 0), (7, 0), (8, 0)] [0, 0, 5, 20] _)
    refine su_inv0 (τ := []) (τr := [5, 0, 0]) (ci := 10) (q := (RX10, TX10, 45)) hC WG (M_X10_readPart _) rfl rfl rfl rfl  rfl rfl wl_7_34 wl_7_36 wp_78 wl_1_10 wl_7_37 hd_X10_readPart (by rw [e3]; decide) (by decide) dX10_readOrder_175 (?_ : SdS X 178 [(0, 20), (1, 1), (3, 0), (4, 0), (5, 0), (6, 0), (7, 0), (8, 0)] [0] _)
    refine su_istore (Γ' := [(0, 20), (1, 1), (3, 0), (4, 0), (5, 0), (6, 0), (7, 0), (8, 0), (9, 0)]) hC dX10_readOrder_178 (by rw [e2]; decide) (by decide) (?_ : SdS X 180 [(0, 20), (1, 1), (3, 0), (4, 0), (5, 0), (6, 0), (7, 0), (8, 0), (9, 0)] [] _)
    refine su_aload_n hC 20 dX10_readOrder_180 rfl (by decide) (by decide) (?_ : SdS X 181 [(0, 20), (1, 1), (3, 0), (4, 0), (5, 0), (6, 0), (7, 0), (8, 0), (9, 0)] [20] _)
    refine su_getF hC (ci := 10) (j := 9) (C := RX10) (T := TX10) (N := 45) rfl rfl (by decide) in_X10 wl_5_173 rfl dX10_readOrder_181 (?_ : SdS X 184 [(0, 20), (1, 1), (3, 0), (4, 0), (5, 0), (6, 0), (7, 0), (8, 0), (9, 0)] [0] _)
    refine su_iconst hC dX10_readOrder_184 ⟨by decide, by decide⟩ (?_ : SdS X 185 [(0, 20), (1, 1), (3, 0), (4, 0), (5, 0), (6, 0), (7, 0), (8, 0), (9, 0)] [0, 0] _)
    refine su_icmp_ne (tgt := 189) hC dX10_readOrder_185 rfl (?_ : SdS X 189 [(0, 20), (1, 1), (3, 0), (4, 0), (5, 0), (6, 0), (7, 0), (8, 0), (9, 0)] [] _) (?_ : SdS X 188 [(0, 20), (1, 1), (3, 0), (4, 0), (5, 0), (6, 0), (7, 0), (8, 0), (9, 0)] [] _)
    · refine su_aload_n hC 20 dX10_readOrder_189 rfl (by decide) (by decide) (?_ : SdS X 190 [(0, 20), (1, 1), (3, 0), (4, 0), (5, 0), (6, 0), (7, 0), (8, 0), (9, 0)] [20] _)
      refine su_getR hC (ci := 10) (j := 4) (C := RX10) (T := TX10) (N := 45) rfl rfl (by decide) in_X10 wl_5_168 rfl dX10_readOrder_190 (?_ : SdS X 193 [(0, 20), (1, 1), (3, 0), (4, 0), (5, 0), (6, 0), (7, 0), (8, 0), (9, 0)] [19] _)
      refine su_getFN hC (ci := 9) (j := 4) (C := RX9) (T := TX9) (N := 28) (host := "NarrowRingsModel") rfl rfl (by decide) in_X9 (by decide) rfl dX10_readOrder_193 (?_ : SdS X 196 [(0, 20), (1, 1), (3, 0), (4, 0), (5, 0), (6, 0), (7, 0), (8, 0), (9, 0)] [0] _)
      refine su_istore (Γ' := [(0, 20), (1, 1), (3, 0), (4, 0), (5, 0), (6, 0), (7, 0), (8, 0), (9, 0), (10, 0)]) hC dX10_readOrder_196 (by rw [e2]; decide) (by decide) (?_ : SdS X 198 [(0, 20), (1, 1), (3, 0), (4, 0), (5, 0), (6, 0), (7, 0), (8, 0), (9, 0), (10, 0)] [] _)
      refine su_aload_n hC 20 dX10_readOrder_198 rfl (by decide) (by decide) (?_ : SdS X 199 [(0, 20), (1, 1), (3, 0), (4, 0), (5, 0), (6, 0), (7, 0), (8, 0), (9, 0), (10, 0)] [20] _)
      refine su_getR hC (ci := 10) (j := 4) (C := RX10) (T := TX10) (N := 45) rfl rfl (by decide) in_X10 wl_5_168 rfl dX10_readOrder_199 (?_ : SdS X 202 [(0, 20), (1, 1), (3, 0), (4, 0), (5, 0), (6, 0), (7, 0), (8, 0), (9, 0), (10, 0)] [19] _)
      refine su_lload_n hC dX10_readOrder_202 rfl (by decide) (?_ : SdS X 203 [(0, 20), (1, 1), (3, 0), (4, 0), (5, 0), (6, 0), (7, 0), (8, 0), (9, 0), (10, 0)] [1, 19] _)
      refine su_iconst hC dX10_readOrder_203 ⟨by decide, by decide⟩ (?_ : SdS X 204 [(0, 20), (1, 1), (3, 0), (4, 0), (5, 0), (6, 0), (7, 0), (8, 0), (9, 0), (10, 0)] [0, 1, 19] _)
      refine su_inv0v (τ := []) (τr := [1, 0]) (ci := 9) (q := (RX9, TX9, 28)) hC WG (M_X9_adds _) rfl rfl rfl rfl  rfl rfl wl_7_47 wl_7_48 wl_7_49 wl_1_17 wl_7_50 hd_X9_adds (by rw [e3]; decide) (by decide) dX10_readOrder_204 (?_ : SdS X 207 [(0, 20), (1, 1), (3, 0), (4, 0), (5, 0), (6, 0), (7, 0), (8, 0), (9, 0), (10, 0)] [] _)
      refine su_aload_n hC 20 dX10_readOrder_207 rfl (by decide) (by decide) (?_ : SdS X 208 [(0, 20), (1, 1), (3, 0), (4, 0), (5, 0), (6, 0), (7, 0), (8, 0), (9, 0), (10, 0)] [20] _)
      refine su_getR hC (ci := 10) (j := 4) (C := RX10) (T := TX10) (N := 45) rfl rfl (by decide) in_X10 wl_5_168 rfl dX10_readOrder_208 (?_ : SdS X 211 [(0, 20), (1, 1), (3, 0), (4, 0), (5, 0), (6, 0), (7, 0), (8, 0), (9, 0), (10, 0)] [19] _)
      refine su_getRN hC (ci := 9) (j := 20) (C := RX9) (T := TX9) (N := 28) (host := "NarrowRingsModel") rfl rfl (by decide) in_X9 (by decide) rfl dX10_readOrder_211 (?_ : SdS X 214 [(0, 20), (1, 1), (3, 0), (4, 0), (5, 0), (6, 0), (7, 0), (8, 0), (9, 0), (10, 0)] [100] _)
      refine su_iload hC dX10_readOrder_214 (by decide) (?_ : SdS X 216 [(0, 20), (1, 1), (3, 0), (4, 0), (5, 0), (6, 0), (7, 0), (8, 0), (9, 0), (10, 0)] [0, 100] _)
      refine su_iload hC dX10_readOrder_216 (by decide) (?_ : SdS X 218 [(0, 20), (1, 1), (3, 0), (4, 0), (5, 0), (6, 0), (7, 0), (8, 0), (9, 0), (10, 0)] [0, 0, 100] _)
      refine su_iastore hC dX10_readOrder_218 (?_ : SdS X 219 [(0, 20), (1, 1), (3, 0), (4, 0), (5, 0), (6, 0), (7, 0), (8, 0), (9, 0), (10, 0)] [] _)
      refine su_aload_n hC 20 dX10_readOrder_219 rfl (by decide) (by decide) (?_ : SdS X 220 [(0, 20), (1, 1), (3, 0), (4, 0), (5, 0), (6, 0), (7, 0), (8, 0), (9, 0), (10, 0)] [20] _)
      refine su_getR hC (ci := 10) (j := 4) (C := RX10) (T := TX10) (N := 45) rfl rfl (by decide) in_X10 wl_5_168 rfl dX10_readOrder_220 (?_ : SdS X 223 [(0, 20), (1, 1), (3, 0), (4, 0), (5, 0), (6, 0), (7, 0), (8, 0), (9, 0), (10, 0)] [19] _)
      refine su_getRN hC (ci := 9) (j := 21) (C := RX9) (T := TX9) (N := 28) (host := "NarrowRingsModel") rfl rfl (by decide) in_X9 (by decide) rfl dX10_readOrder_223 (?_ : SdS X 226 [(0, 20), (1, 1), (3, 0), (4, 0), (5, 0), (6, 0), (7, 0), (8, 0), (9, 0), (10, 0)] [100] _)
      refine su_iload hC dX10_readOrder_226 (by decide) (?_ : SdS X 228 [(0, 20), (1, 1), (3, 0), (4, 0), (5, 0), (6, 0), (7, 0), (8, 0), (9, 0), (10, 0)] [0, 100] _)
      refine su_iload hC dX10_readOrder_228 (by decide) (?_ : SdS X 230 [(0, 20), (1, 1), (3, 0), (4, 0), (5, 0), (6, 0), (7, 0), (8, 0), (9, 0), (10, 0)] [0, 0, 100] _)
      refine su_iastore hC dX10_readOrder_230 (?_ : SdS X 231 [(0, 20), (1, 1), (3, 0), (4, 0), (5, 0), (6, 0), (7, 0), (8, 0), (9, 0), (10, 0)] [] _)
      refine su_aload_n hC 20 dX10_readOrder_231 rfl (by decide) (by decide) (?_ : SdS X 232 [(0, 20), (1, 1), (3, 0), (4, 0), (5, 0), (6, 0), (7, 0), (8, 0), (9, 0), (10, 0)] [20] _)
      refine su_getR hC (ci := 10) (j := 4) (C := RX10) (T := TX10) (N := 45) rfl rfl (by decide) in_X10 wl_5_168 rfl dX10_readOrder_232 (?_ : SdS X 235 [(0, 20), (1, 1), (3, 0), (4, 0), (5, 0), (6, 0), (7, 0), (8, 0), (9, 0), (10, 0)] [19] _)
      refine su_getRN hC (ci := 9) (j := 22) (C := RX9) (T := TX9) (N := 28) (host := "NarrowRingsModel") rfl rfl (by decide) in_X9 (by decide) rfl dX10_readOrder_235 (?_ : SdS X 238 [(0, 20), (1, 1), (3, 0), (4, 0), (5, 0), (6, 0), (7, 0), (8, 0), (9, 0), (10, 0)] [100] _)
      refine su_iload hC dX10_readOrder_238 (by decide) (?_ : SdS X 240 [(0, 20), (1, 1), (3, 0), (4, 0), (5, 0), (6, 0), (7, 0), (8, 0), (9, 0), (10, 0)] [0, 100] _)
      refine su_iload hC dX10_readOrder_240 (by decide) (?_ : SdS X 242 [(0, 20), (1, 1), (3, 0), (4, 0), (5, 0), (6, 0), (7, 0), (8, 0), (9, 0), (10, 0)] [0, 0, 100] _)
      refine su_iastore hC dX10_readOrder_242 (?_ : SdS X 243 [(0, 20), (1, 1), (3, 0), (4, 0), (5, 0), (6, 0), (7, 0), (8, 0), (9, 0), (10, 0)] [] _)
      refine su_aload_n hC 20 dX10_readOrder_243 rfl (by decide) (by decide) (?_ : SdS X 244 [(0, 20), (1, 1), (3, 0), (4, 0), (5, 0), (6, 0), (7, 0), (8, 0), (9, 0), (10, 0)] [20] _)
      refine su_getR hC (ci := 10) (j := 4) (C := RX10) (T := TX10) (N := 45) rfl rfl (by decide) in_X10 wl_5_168 rfl dX10_readOrder_244 (?_ : SdS X 247 [(0, 20), (1, 1), (3, 0), (4, 0), (5, 0), (6, 0), (7, 0), (8, 0), (9, 0), (10, 0)] [19] _)
      refine su_getRN hC (ci := 9) (j := 23) (C := RX9) (T := TX9) (N := 28) (host := "NarrowRingsModel") rfl rfl (by decide) in_X9 (by decide) rfl dX10_readOrder_247 (?_ : SdS X 250 [(0, 20), (1, 1), (3, 0), (4, 0), (5, 0), (6, 0), (7, 0), (8, 0), (9, 0), (10, 0)] [100] _)
      refine su_iload hC dX10_readOrder_250 (by decide) (?_ : SdS X 252 [(0, 20), (1, 1), (3, 0), (4, 0), (5, 0), (6, 0), (7, 0), (8, 0), (9, 0), (10, 0)] [0, 100] _)
      refine su_iload hC dX10_readOrder_252 (by decide) (?_ : SdS X 254 [(0, 20), (1, 1), (3, 0), (4, 0), (5, 0), (6, 0), (7, 0), (8, 0), (9, 0), (10, 0)] [0, 0, 100] _)
      refine su_iastore hC dX10_readOrder_254 (?_ : SdS X 255 [(0, 20), (1, 1), (3, 0), (4, 0), (5, 0), (6, 0), (7, 0), (8, 0), (9, 0), (10, 0)] [] _)
      refine su_aload_n hC 20 dX10_readOrder_255 rfl (by decide) (by decide) (?_ : SdS X 256 [(0, 20), (1, 1), (3, 0), (4, 0), (5, 0), (6, 0), (7, 0), (8, 0), (9, 0), (10, 0)] [20] _)
      refine su_getR hC (ci := 10) (j := 4) (C := RX10) (T := TX10) (N := 45) rfl rfl (by decide) in_X10 wl_5_168 rfl dX10_readOrder_256 (?_ : SdS X 259 [(0, 20), (1, 1), (3, 0), (4, 0), (5, 0), (6, 0), (7, 0), (8, 0), (9, 0), (10, 0)] [19] _)
      refine su_getRN hC (ci := 9) (j := 24) (C := RX9) (T := TX9) (N := 28) (host := "NarrowRingsModel") rfl rfl (by decide) in_X9 (by decide) rfl dX10_readOrder_259 (?_ : SdS X 262 [(0, 20), (1, 1), (3, 0), (4, 0), (5, 0), (6, 0), (7, 0), (8, 0), (9, 0), (10, 0)] [100] _)
      refine su_iload hC dX10_readOrder_262 (by decide) (?_ : SdS X 264 [(0, 20), (1, 1), (3, 0), (4, 0), (5, 0), (6, 0), (7, 0), (8, 0), (9, 0), (10, 0)] [0, 100] _)
      refine su_iload hC dX10_readOrder_264 (by decide) (?_ : SdS X 266 [(0, 20), (1, 1), (3, 0), (4, 0), (5, 0), (6, 0), (7, 0), (8, 0), (9, 0), (10, 0)] [0, 0, 100] _)
      refine su_iastore hC dX10_readOrder_266 (?_ : SdS X 267 [(0, 20), (1, 1), (3, 0), (4, 0), (5, 0), (6, 0), (7, 0), (8, 0), (9, 0), (10, 0)] [] _)
      refine su_aload_n hC 20 dX10_readOrder_267 rfl (by decide) (by decide) (?_ : SdS X 268 [(0, 20), (1, 1), (3, 0), (4, 0), (5, 0), (6, 0), (7, 0), (8, 0), (9, 0), (10, 0)] [20] _)
      refine su_getR hC (ci := 10) (j := 4) (C := RX10) (T := TX10) (N := 45) rfl rfl (by decide) in_X10 wl_5_168 rfl dX10_readOrder_268 (?_ : SdS X 271 [(0, 20), (1, 1), (3, 0), (4, 0), (5, 0), (6, 0), (7, 0), (8, 0), (9, 0), (10, 0)] [19] _)
      refine su_getRN hC (ci := 9) (j := 25) (C := RX9) (T := TX9) (N := 28) (host := "NarrowRingsModel") rfl rfl (by decide) in_X9 (by decide) rfl dX10_readOrder_271 (?_ : SdS X 274 [(0, 20), (1, 1), (3, 0), (4, 0), (5, 0), (6, 0), (7, 0), (8, 0), (9, 0), (10, 0)] [100] _)
      refine su_iload hC dX10_readOrder_274 (by decide) (?_ : SdS X 276 [(0, 20), (1, 1), (3, 0), (4, 0), (5, 0), (6, 0), (7, 0), (8, 0), (9, 0), (10, 0)] [0, 100] _)
      refine su_iload hC dX10_readOrder_276 (by decide) (?_ : SdS X 278 [(0, 20), (1, 1), (3, 0), (4, 0), (5, 0), (6, 0), (7, 0), (8, 0), (9, 0), (10, 0)] [0, 0, 100] _)
      refine su_iastore hC dX10_readOrder_278 (?_ : SdS X 279 [(0, 20), (1, 1), (3, 0), (4, 0), (5, 0), (6, 0), (7, 0), (8, 0), (9, 0), (10, 0)] [] _)
      refine su_aload_n hC 20 dX10_readOrder_279 rfl (by decide) (by decide) (?_ : SdS X 280 [(0, 20), (1, 1), (3, 0), (4, 0), (5, 0), (6, 0), (7, 0), (8, 0), (9, 0), (10, 0)] [20] _)
      refine su_getR hC (ci := 10) (j := 4) (C := RX10) (T := TX10) (N := 45) rfl rfl (by decide) in_X10 wl_5_168 rfl dX10_readOrder_280 (?_ : SdS X 283 [(0, 20), (1, 1), (3, 0), (4, 0), (5, 0), (6, 0), (7, 0), (8, 0), (9, 0), (10, 0)] [19] _)
      refine su_dup hC (by decide) dX10_readOrder_283 (?_ : SdS X 284 [(0, 20), (1, 1), (3, 0), (4, 0), (5, 0), (6, 0), (7, 0), (8, 0), (9, 0), (10, 0)] [19, 19] _)
      refine su_getFN hC (ci := 9) (j := 4) (C := RX9) (T := TX9) (N := 28) (host := "NarrowRingsModel") rfl rfl (by decide) in_X9 (by decide) rfl dX10_readOrder_284 (?_ : SdS X 287 [(0, 20), (1, 1), (3, 0), (4, 0), (5, 0), (6, 0), (7, 0), (8, 0), (9, 0), (10, 0)] [0, 19] _)
      refine su_iconst hC dX10_readOrder_287 ⟨by decide, by decide⟩ (?_ : SdS X 288 [(0, 20), (1, 1), (3, 0), (4, 0), (5, 0), (6, 0), (7, 0), (8, 0), (9, 0), (10, 0)] [0, 0, 19] _)
      refine su_iadd hC dX10_readOrder_288 (?_ : SdS X 289 [(0, 20), (1, 1), (3, 0), (4, 0), (5, 0), (6, 0), (7, 0), (8, 0), (9, 0), (10, 0)] [0, 19] _)
      refine su_putFN hC (ci := 9) (j := 4) (C := RX9) (T := TX9) (N := 28) (host := "NarrowRingsModel") tyX9 tyX9_ok nmX9 rfl rfl (by decide) in_X9 rfl rfl (by decide) rfl dX10_readOrder_289 (?_ : SdS X 292 [(0, 20), (1, 1), (3, 0), (4, 0), (5, 0), (6, 0), (7, 0), (8, 0), (9, 0), (10, 0)] [] _)
      exact su_return hC hT dX10_readOrder_292
    · exact su_return hC hT dX10_readOrder_188
  have S_73 : SdS X 73 [(0, 20), (1, 1), (3, 0)] [] (B_X10_readOrder_73 Q) := by
    unfold B_X10_readOrder_73
    refine su_aload_n hC 20 dX10_readOrder_73 rfl (by decide) (by decide) (?_ : SdS X 74 [(0, 20), (1, 1), (3, 0)] [20] _)
    refine su_getF hC (ci := 10) (j := 9) (C := RX10) (T := TX10) (N := 45) rfl rfl (by decide) in_X10 wl_5_173 rfl dX10_readOrder_74 (?_ : SdS X 77 [(0, 20), (1, 1), (3, 0)] [0] _)
    refine su_iconst hC dX10_readOrder_77 ⟨by decide, by decide⟩ (?_ : SdS X 78 [(0, 20), (1, 1), (3, 0)] [0, 0] _)
    refine su_icmp_ne (tgt := 85) hC dX10_readOrder_78 rfl (?_ : SdS X 85 [(0, 20), (1, 1), (3, 0)] [] _) (?_ : SdS X 81 [(0, 20), (1, 1), (3, 0)] [] _)
    · refine su_aload_n hC 20 dX10_readOrder_85 rfl (by decide) (by decide) (?_ : SdS X 86 [(0, 20), (1, 1), (3, 0)] [20] _)
      refine su_getR hC (ci := 10) (j := 4) (C := RX10) (T := TX10) (N := 45) rfl rfl (by decide) in_X10 wl_5_168 rfl dX10_readOrder_86 (?_ : SdS X 89 [(0, 20), (1, 1), (3, 0)] [19] _)
      refine su_getRN hC (ci := 9) (j := 27) (C := RX9) (T := TX9) (N := 28) (host := "NarrowRingsModel") rfl rfl (by decide) in_X9 (by decide) rfl dX10_readOrder_89 (?_ : SdS X 92 [(0, 20), (1, 1), (3, 0)] [100] _)
      refine su_iload_n hC dX10_readOrder_92 rfl (by decide) (?_ : SdS X 93 [(0, 20), (1, 1), (3, 0)] [0, 100] _)
      refine su_iaload hC dX10_readOrder_93 (?_ : SdS X 94 [(0, 20), (1, 1), (3, 0)] [0] _)
      exact SdS.weak (by decide) (S_94)
    · refine su_iconst hC dX10_readOrder_81 ⟨by decide, by decide⟩ (?_ : SdS X 82 [(0, 20), (1, 1), (3, 0)] [0] _)
      refine su_goto (tgt := 94) hC dX10_readOrder_82 rfl (?_ : SdS X 94 [(0, 20), (1, 1), (3, 0)] [0] _)
      exact SdS.weak (by decide) (S_94)
  have S_68 : SdS X 68 [(0, 20), (1, 1), (3, 0)] [] (B_X10_readOrder_68 Q) := by
    unfold B_X10_readOrder_68
    refine su_aload_n hC 20 dX10_readOrder_68 rfl (by decide) (by decide) (?_ : SdS X 69 [(0, 20), (1, 1), (3, 0)] [20] _)
    refine su_iconst hC dX10_readOrder_69 ⟨by decide, by decide⟩ (?_ : SdS X 70 [(0, 20), (1, 1), (3, 0)] [0, 20] _)
    refine su_inv0v (τ := []) (τr := [0]) (ci := 10) (q := (RX10, TX10, 45)) hC WG (M_X10_wrong _) rfl rfl rfl rfl  rfl rfl wl_6_226 wl_6_228 wp_70 wl_1_10 wl_6_229 hd_X10_wrong (by rw [e3]; decide) (by decide) dX10_readOrder_70 (?_ : SdS X 73 [(0, 20), (1, 1), (3, 0)] [] _)
    exact SdS.weak (by decide) (S_73)
  have S_38 : SdS X 38 [(0, 20), (1, 1)] [] (B_X10_readOrder_38 Q) := by
    unfold B_X10_readOrder_38
    refine su_aload_n hC 20 dX10_readOrder_38 rfl (by decide) (by decide) (?_ : SdS X 39 [(0, 20), (1, 1)] [20] _)
    refine su_getR hC (ci := 10) (j := 4) (C := RX10) (T := TX10) (N := 45) rfl rfl (by decide) in_X10 wl_5_168 rfl dX10_readOrder_39 (?_ : SdS X 42 [(0, 20), (1, 1)] [19] _)
    refine su_aload_n hC 20 dX10_readOrder_42 rfl (by decide) (by decide) (?_ : SdS X 43 [(0, 20), (1, 1)] [20, 19] _)
    refine su_getF hC (ci := 10) (j := 15) (C := RX10) (T := TX10) (N := 45) rfl rfl (by decide) in_X10 wl_5_179 rfl dX10_readOrder_43 (?_ : SdS X 46 [(0, 20), (1, 1)] [1, 19] _)
    refine su_inv0 (τ := []) (τr := [1]) (ci := 9) (q := (RX9, TX9, 28)) hC WG (M_X9_find _) rfl rfl rfl rfl  rfl rfl wl_7_29 wl_7_30 wl_7_31 wl_1_17 wl_7_32 hd_X9_find (by rw [e3]; decide) (by decide) dX10_readOrder_46 (?_ : SdS X 49 [(0, 20), (1, 1)] [0] _)
    refine su_istore_n (Γ' := [(0, 20), (1, 1), (3, 0)]) hC dX10_readOrder_49 rfl (by rw [e2]; decide) (by decide) (?_ : SdS X 50 [(0, 20), (1, 1), (3, 0)] [] _)
    refine su_iload_n hC dX10_readOrder_50 rfl (by decide) (?_ : SdS X 51 [(0, 20), (1, 1), (3, 0)] [0] _)
    refine su_iconst hC dX10_readOrder_51 ⟨by decide, by decide⟩ (?_ : SdS X 52 [(0, 20), (1, 1), (3, 0)] [0, 0] _)
    refine su_icmp_eq (tgt := 68) hC dX10_readOrder_52 rfl (?_ : SdS X 68 [(0, 20), (1, 1), (3, 0)] [] _) (?_ : SdS X 55 [(0, 20), (1, 1), (3, 0)] [] _)
    · exact SdS.weak (by decide) (S_68)
    · refine su_aload_n hC 20 dX10_readOrder_55 rfl (by decide) (by decide) (?_ : SdS X 56 [(0, 20), (1, 1), (3, 0)] [20] _)
      refine su_getR hC (ci := 10) (j := 4) (C := RX10) (T := TX10) (N := 45) rfl rfl (by decide) in_X10 wl_5_168 rfl dX10_readOrder_56 (?_ : SdS X 59 [(0, 20), (1, 1), (3, 0)] [19] _)
      refine su_getRN hC (ci := 9) (j := 27) (C := RX9) (T := TX9) (N := 28) (host := "NarrowRingsModel") rfl rfl (by decide) in_X9 (by decide) rfl dX10_readOrder_59 (?_ : SdS X 62 [(0, 20), (1, 1), (3, 0)] [100] _)
      refine su_iload_n hC dX10_readOrder_62 rfl (by decide) (?_ : SdS X 63 [(0, 20), (1, 1), (3, 0)] [0, 100] _)
      refine su_iaload hC dX10_readOrder_63 (?_ : SdS X 64 [(0, 20), (1, 1), (3, 0)] [0] _)
      refine su_iconst hC dX10_readOrder_64 ⟨by decide, by decide⟩ (?_ : SdS X 65 [(0, 20), (1, 1), (3, 0)] [0, 0] _)
      refine su_icmp_ne (tgt := 73) hC dX10_readOrder_65 rfl (?_ : SdS X 73 [(0, 20), (1, 1), (3, 0)] [] _) (?_ : SdS X 68 [(0, 20), (1, 1), (3, 0)] [] _)
      · exact SdS.weak (by decide) (S_73)
      · exact SdS.weak (by decide) (S_68)
  refine (?_ : SdS X 0 [(0, 20)] [] (E_X10_readOrder Q))
  unfold E_X10_readOrder
  refine su_aload_n hC 20 dX10_readOrder_0 rfl (by decide) (by decide) (?_ : SdS X 1 [(0, 20)] [20] _)
  refine su_aload_n hC 20 dX10_readOrder_1 rfl (by decide) (by decide) (?_ : SdS X 2 [(0, 20)] [20, 20] _)
  refine su_getR hC (ci := 10) (j := 4) (C := RX10) (T := TX10) (N := 45) rfl rfl (by decide) in_X10 wl_5_168 rfl dX10_readOrder_2 (?_ : SdS X 5 [(0, 20)] [19, 20] _)
  refine su_getFN hC (ci := 9) (j := 4) (C := RX9) (T := TX9) (N := 28) (host := "NarrowRingsModel") rfl rfl (by decide) in_X9 (by decide) rfl dX10_readOrder_5 (?_ : SdS X 8 [(0, 20)] [0, 20] _)
  refine su_bipush hC dX10_readOrder_8 (by decide) (?_ : SdS X 10 [(0, 20)] [0, 0, 20] _)
  refine su_iconst hC dX10_readOrder_10 ⟨by decide, by decide⟩ (?_ : SdS X 11 [(0, 20)] [0, 0, 0, 20] _)
  refine su_inv0v (τ := []) (τr := [0, 0, 0]) (ci := 10) (q := (RX10, TX10, 45)) hC WG (M_X10_begins _) rfl rfl rfl rfl  rfl rfl wl_7_10 wl_7_12 wp_75 wl_1_10 wl_7_13 hd_X10_begins (by rw [e3]; decide) (by decide) dX10_readOrder_11 (?_ : SdS X 14 [(0, 20)] [] _)
  refine su_aload_n hC 20 dX10_readOrder_14 rfl (by decide) (by decide) (?_ : SdS X 15 [(0, 20)] [20] _)
  refine su_inv0 (τ := []) (τr := []) (ci := 10) (q := (RX10, TX10, 45)) hC WG (M_X10_readFresh _) rfl rfl rfl rfl  rfl rfl wl_7_14 wl_7_16 wp_76 wl_1_10 wl_7_17 hd_X10_readFresh (by rw [e3]; decide) (by decide) dX10_readOrder_15 (?_ : SdS X 18 [(0, 20)] [1] _)
  refine su_lstore_n (Γ' := [(0, 20), (1, 1)]) hC dX10_readOrder_18 rfl (by rw [e2]; decide) (by decide) (?_ : SdS X 19 [(0, 20), (1, 1)] [] _)
  refine su_aload_n hC 20 dX10_readOrder_19 rfl (by decide) (by decide) (?_ : SdS X 20 [(0, 20), (1, 1)] [20] _)
  refine su_ldc_wS hC (tx0 := "of") (i := 20) rfl (by decide) (by decide) dX10_readOrder_20 (?_ : SdS X 23 [(0, 20), (1, 1)] [5, 20] _)
  refine su_inv0v (τ := []) (τr := [5]) (ci := 10) (q := (RX10, TX10, 45)) hC WG (M_X10_needs _) rfl rfl rfl rfl  rfl rfl wl_7_38 wl_7_40 wp_79 wl_1_10 wl_7_41 hd_X10_needs (by rw [e3]; decide) (by decide) dX10_readOrder_23 (?_ : SdS X 26 [(0, 20), (1, 1)] [] _)
  refine su_aload_n hC 20 dX10_readOrder_26 rfl (by decide) (by decide) (?_ : SdS X 27 [(0, 20), (1, 1)] [20] _)
  refine su_inv0 (τ := []) (τr := []) (ci := 10) (q := (RX10, TX10, 45)) hC WG (M_X10_isName _) rfl rfl rfl rfl  rfl rfl wl_7_18 wl_7_20 wp_77 wl_1_10 wl_7_21 hd_X10_isName (by rw [e3]; decide) (by decide) dX10_readOrder_27 (?_ : SdS X 30 [(0, 20), (1, 1)] [0] _)
  refine su_if_ne (tgt := 38) hC dX10_readOrder_30 rfl (?_ : SdS X 38 [(0, 20), (1, 1)] [] _) (?_ : SdS X 33 [(0, 20), (1, 1)] [] _)
  · exact SdS.weak (by decide) (S_38)
  · refine su_aload_n hC 20 dX10_readOrder_33 rfl (by decide) (by decide) (?_ : SdS X 34 [(0, 20), (1, 1)] [20] _)
    refine su_iconst hC dX10_readOrder_34 ⟨by decide, by decide⟩ (?_ : SdS X 35 [(0, 20), (1, 1)] [0, 20] _)
    refine su_inv0v (τ := []) (τr := [0]) (ci := 10) (q := (RX10, TX10, 45)) hC WG (M_X10_wrong _) rfl rfl rfl rfl  rfl rfl wl_6_226 wl_6_228 wp_70 wl_1_10 wl_6_229 hd_X10_wrong (by rw [e3]; decide) (by decide) dX10_readOrder_35 (?_ : SdS X 38 [(0, 20), (1, 1)] [] _)
    exact SdS.weak (by decide) (S_38)

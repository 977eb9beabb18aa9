theorem wl_5_171 : Cond.fieldLink RX10 74 "NarrowRingsModel" "size" "I" ∈ WALL := tb5 (List.mem_of_getElem? (i := 171) rfl) rfl
theorem wl_5_169 : Cond.fieldLink RX10 13 "NarrowRingsModel" "tape" "[B" ∈ WALL := tb5 (List.mem_of_getElem? (i := 169) rfl) rfl
theorem hd_X10_byteAt : yX10_byteAt.cls ≠ "java/lang/invoke/MethodHandle" ∧ yX10_byteAt.cls ≠ "java/lang/invoke/VarHandle" ∧ (parseMethodDescriptor yX10_byteAt.desc).map (fun d => d.parameters.length) = some 1 := by decide +kernel
set_option maxRecDepth 100000 in
set_option maxHeartbeats 4000000 in
theorem M_X10_byteAt (l : Launch) : Mt l yX10_byteAt (Cond.code yX10_byteAt cX10_byteAt 2 (some .int) :: WALL) { frames := 0, cells := 0, slots := 0, locals := 0 } [20, 0] (some 0) T_X10_byteAt := by
  refine Mt.mk (B := E_X10_byteAt) (by decide +kernel) (by decide) (fun _ _ _ hh => hh) ?_
  intro X Q e1 e2 e3 hC hN hT
  subst e1
  have hC : CF X cX10_byteAt RX10 WALL := hC
  have S_22 : Sd X 22 [(0, 20), (1, 0)] [0] (B_X10_byteAt_22 Q) := by
    unfold B_X10_byteAt_22
    exact sd_ireturn hC hT dX10_byteAt_22
  refine (?_ : Sd X 0 [(0, 20), (1, 0)] [] (E_X10_byteAt Q))
  unfold E_X10_byteAt
  refine sd_iload_n hC dX10_byteAt_0 rfl (by decide) (?_ : Sd X 1 [(0, 20), (1, 0)] [0] _)
  refine sd_aload_n hC 20 dX10_byteAt_1 rfl (by decide) (by decide) (?_ : Sd X 2 [(0, 20), (1, 0)] [20, 0] _)
  refine sd_get hC (ci := 10) (j := 7) (C := RX10) (T := TX10) (N := 45) rfl rfl (by decide) in_X10 wl_5_171 dX10_byteAt_2 (?_ : Sd X 5 [(0, 20), (1, 0)] [0, 0] _)
  refine sd_icmp_ge (tgt := 21) hC dX10_byteAt_5 rfl (?_ : Sd X 21 [(0, 20), (1, 0)] [] _) (?_ : Sd X 8 [(0, 20), (1, 0)] [] _)
  · refine sd_iconst hC dX10_byteAt_21 ⟨by decide, by decide⟩ (?_ : Sd X 22 [(0, 20), (1, 0)] [0] _)
    exact Sd.weak (by decide) (S_22)
  · refine sd_aload_n hC 20 dX10_byteAt_8 rfl (by decide) (by decide) (?_ : Sd X 9 [(0, 20), (1, 0)] [20] _)
    refine sd_get hC (ci := 10) (j := 5) (C := RX10) (T := TX10) (N := 45) rfl rfl (by decide) in_X10 wl_5_169 dX10_byteAt_9 (?_ : Sd X 12 [(0, 20), (1, 0)] [102] _)
    refine sd_iload_n hC dX10_byteAt_12 rfl (by decide) (?_ : Sd X 13 [(0, 20), (1, 0)] [0, 102] _)
    refine sd_baload hC dX10_byteAt_13 (?_ : Sd X 14 [(0, 20), (1, 0)] [0] _)
    refine sd_sipush hC dX10_byteAt_14 (by decide) (?_ : Sd X 17 [(0, 20), (1, 0)] [0, 0] _)
    refine sd_iand hC dX10_byteAt_17 (?_ : Sd X 18 [(0, 20), (1, 0)] [0] _)
    refine sd_goto (tgt := 22) hC dX10_byteAt_18 rfl (?_ : Sd X 22 [(0, 20), (1, 0)] [0] _)
    exact Sd.weak (by decide) (S_22)
theorem hd_X10_isLetter : yX10_isLetter.cls ≠ "java/lang/invoke/MethodHandle" ∧ yX10_isLetter.cls ≠ "java/lang/invoke/VarHandle" ∧ (parseMethodDescriptor yX10_isLetter.desc).map (fun d => d.parameters.length) = some 1 := by decide +kernel
set_option maxRecDepth 100000 in
set_option maxHeartbeats 4000000 in
theorem M_X10_isLetter (l : Launch) : Mt l yX10_isLetter (Cond.code yX10_isLetter cX10_isLetter 1 (some .boolean) :: WALL) { frames := 0, cells := 0, slots := 0, locals := 0 } [0] (some 0) T_X10_isLetter := by
  refine Mt.mk (B := E_X10_isLetter) (by decide +kernel) (by decide) (fun _ _ _ hh => hh) ?_
  intro X Q e1 e2 e3 hC hN hT
  subst e1
  have hC : CF X cX10_isLetter RX10 WALL := hC
  have S_17 : Sd X 17 [(0, 0)] [0] (B_X10_isLetter_17 Q) := by
    unfold B_X10_isLetter_17
    exact sd_zreturn hC hT dX10_isLetter_17
  have S_16 : Sd X 16 [(0, 0)] [] (B_X10_isLetter_16 Q) := by
    unfold B_X10_isLetter_16
    refine sd_iconst hC dX10_isLetter_16 ⟨by decide, by decide⟩ (?_ : Sd X 17 [(0, 0)] [0] _)
    exact Sd.weak (by decide) (S_17)
  refine (?_ : Sd X 0 [(0, 0)] [] (E_X10_isLetter Q))
  unfold E_X10_isLetter
  refine sd_iload_n hC dX10_isLetter_0 rfl (by decide) (?_ : Sd X 1 [(0, 0)] [0] _)
  refine sd_bipush hC dX10_isLetter_1 (by decide) (?_ : Sd X 3 [(0, 0)] [0, 0] _)
  refine sd_icmp_lt (tgt := 16) hC dX10_isLetter_3 rfl (?_ : Sd X 16 [(0, 0)] [] _) (?_ : Sd X 6 [(0, 0)] [] _)
  · exact Sd.weak (by decide) (S_16)
  · refine sd_iload_n hC dX10_isLetter_6 rfl (by decide) (?_ : Sd X 7 [(0, 0)] [0] _)
    refine sd_bipush hC dX10_isLetter_7 (by decide) (?_ : Sd X 9 [(0, 0)] [0, 0] _)
    refine sd_icmp_gt (tgt := 16) hC dX10_isLetter_9 rfl (?_ : Sd X 16 [(0, 0)] [] _) (?_ : Sd X 12 [(0, 0)] [] _)
    · exact Sd.weak (by decide) (S_16)
    · refine sd_iconst hC dX10_isLetter_12 ⟨by decide, by decide⟩ (?_ : Sd X 13 [(0, 0)] [0] _)
      refine sd_goto (tgt := 17) hC dX10_isLetter_13 rfl (?_ : Sd X 17 [(0, 0)] [0] _)
      exact Sd.weak (by decide) (S_17)
theorem hd_X10_isDigit : yX10_isDigit.cls ≠ "java/lang/invoke/MethodHandle" ∧ yX10_isDigit.cls ≠ "java/lang/invoke/VarHandle" ∧ (parseMethodDescriptor yX10_isDigit.desc).map (fun d => d.parameters.length) = some 1 := by decide +kernel
set_option maxRecDepth 100000 in
set_option maxHeartbeats 4000000 in
theorem M_X10_isDigit (l : Launch) : Mt l yX10_isDigit (Cond.code yX10_isDigit cX10_isDigit 1 (some .boolean) :: WALL) { frames := 0, cells := 0, slots := 0, locals := 0 } [0] (some 0) T_X10_isDigit := by
  refine Mt.mk (B := E_X10_isDigit) (by decide +kernel) (by decide) (fun _ _ _ hh => hh) ?_
  intro X Q e1 e2 e3 hC hN hT
  subst e1
  have hC : CF X cX10_isDigit RX10 WALL := hC
  have S_17 : Sd X 17 [(0, 0)] [0] (B_X10_isDigit_17 Q) := by
    unfold B_X10_isDigit_17
    exact sd_zreturn hC hT dX10_isDigit_17
  have S_16 : Sd X 16 [(0, 0)] [] (B_X10_isDigit_16 Q) := by
    unfold B_X10_isDigit_16
    refine sd_iconst hC dX10_isDigit_16 ⟨by decide, by decide⟩ (?_ : Sd X 17 [(0, 0)] [0] _)
    exact Sd.weak (by decide) (S_17)
  refine (?_ : Sd X 0 [(0, 0)] [] (E_X10_isDigit Q))
  unfold E_X10_isDigit
  refine sd_iload_n hC dX10_isDigit_0 rfl (by decide) (?_ : Sd X 1 [(0, 0)] [0] _)
  refine sd_bipush hC dX10_isDigit_1 (by decide) (?_ : Sd X 3 [(0, 0)] [0, 0] _)
  refine sd_icmp_lt (tgt := 16) hC dX10_isDigit_3 rfl (?_ : Sd X 16 [(0, 0)] [] _) (?_ : Sd X 6 [(0, 0)] [] _)
  · exact Sd.weak (by decide) (S_16)
  · refine sd_iload_n hC dX10_isDigit_6 rfl (by decide) (?_ : Sd X 7 [(0, 0)] [0] _)
    refine sd_bipush hC dX10_isDigit_7 (by decide) (?_ : Sd X 9 [(0, 0)] [0, 0] _)
    refine sd_icmp_gt (tgt := 16) hC dX10_isDigit_9 rfl (?_ : Sd X 16 [(0, 0)] [] _) (?_ : Sd X 12 [(0, 0)] [] _)
    · exact Sd.weak (by decide) (S_16)
    · refine sd_iconst hC dX10_isDigit_12 ⟨by decide, by decide⟩ (?_ : Sd X 13 [(0, 0)] [0] _)
      refine sd_goto (tgt := 17) hC dX10_isDigit_13 rfl (?_ : Sd X 17 [(0, 0)] [0] _)
      exact Sd.weak (by decide) (S_17)
theorem wl_5_172 : Cond.fieldLink RX10 92 "NarrowRingsModel" "at" "I" ∈ WALL := tb5 (List.mem_of_getElem? (i := 172) rfl) rfl
theorem wl_6_193 : Cond.methodLink RX10 95 yX10_byteAt ∈ WALL := tb6 (List.mem_of_getElem? (i := 193) rfl) rfl
theorem wl_6_195 : Cond.instanceMethod yX10_byteAt ∈ WALL := tb6 (List.mem_of_getElem? (i := 195) rfl) rfl
theorem wp_65 : Cond.selects RX10 yX10_byteAt yX10_byteAt ∈ WALL := tbS (List.mem_of_getElem? (i := 65) rfl)
theorem wl_6_196 : Cond.code yX10_byteAt cX10_byteAt 2 (some .int) ∈ WALL := tb6 (List.mem_of_getElem? (i := 196) rfl) rfl
theorem wl_5_175 : Cond.fieldLink RX10 101 "NarrowRingsModel" "sign" "I" ∈ WALL := tb5 (List.mem_of_getElem? (i := 175) rfl) rfl
theorem wl_6_197 : Cond.methodLink RX10 104 yX10_isLetter ∈ WALL := tb6 (List.mem_of_getElem? (i := 197) rfl) rfl
theorem wl_6_198 : Cond.static yX10_isLetter ∈ WALL := tb6 (List.mem_of_getElem? (i := 198) rfl) rfl
theorem wl_6_199 : Cond.code yX10_isLetter cX10_isLetter 1 (some .boolean) ∈ WALL := tb6 (List.mem_of_getElem? (i := 199) rfl) rfl
theorem wl_6_201 : Cond.methodLink RX10 112 yX10_isDigit ∈ WALL := tb6 (List.mem_of_getElem? (i := 201) rfl) rfl
theorem wl_6_202 : Cond.static yX10_isDigit ∈ WALL := tb6 (List.mem_of_getElem? (i := 202) rfl) rfl
theorem wl_6_203 : Cond.code yX10_isDigit cX10_isDigit 1 (some .boolean) ∈ WALL := tb6 (List.mem_of_getElem? (i := 203) rfl) rfl
theorem wl_5_176 : Cond.fieldLink RX10 115 "NarrowRingsModel" "number" "I" ∈ WALL := tb5 (List.mem_of_getElem? (i := 176) rfl) rfl
theorem wl_5_179 : Cond.fieldLink RX10 108 "NarrowRingsModel" "word" "J" ∈ WALL := tb5 (List.mem_of_getElem? (i := 179) rfl) rfl
theorem wl_6_200 : Cond.constantLong RX10 83 (Int64.ofInt 32) ∈ WALL := tb6 (List.mem_of_getElem? (i := 200) rfl) rfl
theorem hd_X10_goesOn : yX10_goesOn.cls ≠ "java/lang/invoke/MethodHandle" ∧ yX10_goesOn.cls ≠ "java/lang/invoke/VarHandle" ∧ (parseMethodDescriptor yX10_goesOn.desc).map (fun d => d.parameters.length) = some 0 := by decide +kernel
set_option maxRecDepth 100000 in
set_option maxHeartbeats 4000000 in
theorem M_X10_goesOn (l : Launch) : Mt l yX10_goesOn (Cond.code yX10_goesOn cX10_goesOn 3 none :: WALL) { frames := 1, cells := 0, slots := 0, locals := 21 } [20] none T_X10_goesOn := by
  refine Mt.mk (B := E_X10_goesOn) (by decide +kernel) (by decide) (fun _ _ _ hh => hh) ?_
  intro X Q e1 e2 e3 hC hN hT
  subst e1
  have hC : CF X cX10_goesOn RX10 WALL := hC
  have S_281 : Sd X 281 [(0, 20), (1, 0), (2, 0)] [] (B_X10_goesOn_281 Q) := by
    unfold B_X10_goesOn_281
    exact sd_return hC hT dX10_goesOn_281
  have S_261 : Sd X 261 [(0, 20), (1, 0), (2, 0)] [] (B_X10_goesOn_261 Q) := by
    unfold B_X10_goesOn_261
    refine sd_aload_n hC 20 dX10_goesOn_261 rfl (by decide) (by decide) (?_ : Sd X 262 [(0, 20), (1, 0), (2, 0)] [20] _)
    refine sd_iconst hC dX10_goesOn_262 ⟨by decide, by decide⟩ (?_ : Sd X 263 [(0, 20), (1, 0), (2, 0)] [0, 20] _)
    refine sd_put hC (ci := 10) (j := 9) (C := RX10) (T := TX10) (N := 45) tyX10 tyX10_ok nmX10 rfl rfl (by decide) in_X10 rfl rfl wl_5_173 dX10_goesOn_263 (?_ : Sd X 266 [(0, 20), (1, 0), (2, 0)] [] _)
    refine sd_aload_n hC 20 dX10_goesOn_266 rfl (by decide) (by decide) (?_ : Sd X 267 [(0, 20), (1, 0), (2, 0)] [20] _)
    refine sd_iload_n hC dX10_goesOn_267 rfl (by decide) (?_ : Sd X 268 [(0, 20), (1, 0), (2, 0)] [0, 20] _)
    refine sd_put hC (ci := 10) (j := 11) (C := RX10) (T := TX10) (N := 45) tyX10 tyX10_ok nmX10 rfl rfl (by decide) in_X10 rfl rfl wl_5_175 dX10_goesOn_268 (?_ : Sd X 271 [(0, 20), (1, 0), (2, 0)] [] _)
    refine sd_aload_n hC 20 dX10_goesOn_271 rfl (by decide) (by decide) (?_ : Sd X 272 [(0, 20), (1, 0), (2, 0)] [20] _)
    refine sd_dup hC (by decide) dX10_goesOn_272 (?_ : Sd X 273 [(0, 20), (1, 0), (2, 0)] [20, 20] _)
    refine sd_get hC (ci := 10) (j := 8) (C := RX10) (T := TX10) (N := 45) rfl rfl (by decide) in_X10 wl_5_172 dX10_goesOn_273 (?_ : Sd X 276 [(0, 20), (1, 0), (2, 0)] [0, 20] _)
    refine sd_iconst hC dX10_goesOn_276 ⟨by decide, by decide⟩ (?_ : Sd X 277 [(0, 20), (1, 0), (2, 0)] [0, 0, 20] _)
    refine sd_iadd hC dX10_goesOn_277 (?_ : Sd X 278 [(0, 20), (1, 0), (2, 0)] [0, 20] _)
    refine sd_put hC (ci := 10) (j := 8) (C := RX10) (T := TX10) (N := 45) tyX10 tyX10_ok nmX10 rfl rfl (by decide) in_X10 rfl rfl wl_5_172 dX10_goesOn_278 (?_ : Sd X 281 [(0, 20), (1, 0), (2, 0)] [] _)
    exact Sd.weak (by decide) (S_281)
  have S_220 : ∀ (k178 : tK), Sd X 178 [(0, 20), (1, 0), (2, 0)] [] k178 → Sd X 220 [(0, 20), (1, 0), (2, 0)] [] (B_X10_goesOn_220 Q k178) := by
    intro k178 h178
    unfold B_X10_goesOn_220
    refine sd_iinc (Γ' := [(0, 20), (1, 0), (2, 0)]) hC dX10_goesOn_220 (by decide) (by rw [e2]; decide) (by decide) (?_ : Sd X 223 [(0, 20), (1, 0), (2, 0)] [] _)
    refine sd_aload_n hC 20 dX10_goesOn_223 rfl (by decide) (by decide) (?_ : Sd X 224 [(0, 20), (1, 0), (2, 0)] [20] _)
    refine sd_dup hC (by decide) dX10_goesOn_224 (?_ : Sd X 225 [(0, 20), (1, 0), (2, 0)] [20, 20] _)
    refine sd_get hC (ci := 10) (j := 8) (C := RX10) (T := TX10) (N := 45) rfl rfl (by decide) in_X10 wl_5_172 dX10_goesOn_225 (?_ : Sd X 228 [(0, 20), (1, 0), (2, 0)] [0, 20] _)
    refine sd_iconst hC dX10_goesOn_228 ⟨by decide, by decide⟩ (?_ : Sd X 229 [(0, 20), (1, 0), (2, 0)] [0, 0, 20] _)
    refine sd_iadd hC dX10_goesOn_229 (?_ : Sd X 230 [(0, 20), (1, 0), (2, 0)] [0, 20] _)
    refine sd_put hC (ci := 10) (j := 8) (C := RX10) (T := TX10) (N := 45) tyX10 tyX10_ok nmX10 rfl rfl (by decide) in_X10 rfl rfl wl_5_172 dX10_goesOn_230 (?_ : Sd X 233 [(0, 20), (1, 0), (2, 0)] [] _)
    refine sd_goto (tgt := 178) hC dX10_goesOn_233 rfl (?_ : Sd X 178 [(0, 20), (1, 0), (2, 0)] [] _)
    exact Sd.weak (by decide) h178
  have S_178 : Sd X 178 [(0, 20), (1, 0), (2, 0)] [] (L_X10_goesOn_178 Q) := by
    unfold L_X10_goesOn_178
    refine Sd.loop (fun k178 h178 => ?_)
    refine sd_aload_n hC 20 dX10_goesOn_178 rfl (by decide) (by decide) (?_ : Sd X 179 [(0, 20), (1, 0), (2, 0)] [20] _)
    refine sd_aload_n hC 20 dX10_goesOn_179 rfl (by decide) (by decide) (?_ : Sd X 180 [(0, 20), (1, 0), (2, 0)] [20, 20] _)
    refine sd_get hC (ci := 10) (j := 8) (C := RX10) (T := TX10) (N := 45) rfl rfl (by decide) in_X10 wl_5_172 dX10_goesOn_180 (?_ : Sd X 183 [(0, 20), (1, 0), (2, 0)] [0, 20] _)
    refine sd_inv0 (τ := []) (τr := [0]) (ci := 10) (q := (RX10, TX10, 45)) hC WG (M_X10_byteAt _) rfl rfl rfl rfl  rfl rfl wl_6_193 wl_6_195 wp_65 wl_1_10 wl_6_196 hd_X10_byteAt (by rw [e3]; decide) (by decide) dX10_goesOn_183 (?_ : Sd X 186 [(0, 20), (1, 0), (2, 0)] [0] _)
    refine sd_invs (τ := []) (τs := [0]) hC false "" WG (M_X10_isDigit _) rfl rfl rfl rfl wl_6_201 wl_6_202 wl_1_10 wl_6_203 hd_X10_isDigit (by rw [e3]; decide) (by decide) dX10_goesOn_186 (?_ : Sd X 189 [(0, 20), (1, 0), (2, 0)] [0] _)
    refine sd_if_eq (tgt := 236) hC dX10_goesOn_189 rfl (?_ : Sd X 236 [(0, 20), (1, 0), (2, 0)] [] _) (?_ : Sd X 192 [(0, 20), (1, 0), (2, 0)] [] _)
    · refine sd_iload_n hC dX10_goesOn_236 rfl (by decide) (?_ : Sd X 237 [(0, 20), (1, 0), (2, 0)] [0] _)
      refine sd_iconst hC dX10_goesOn_237 ⟨by decide, by decide⟩ (?_ : Sd X 238 [(0, 20), (1, 0), (2, 0)] [0, 0] _)
      refine sd_icmp_gt (tgt := 281) hC dX10_goesOn_238 rfl (?_ : Sd X 281 [(0, 20), (1, 0), (2, 0)] [] _) (?_ : Sd X 241 [(0, 20), (1, 0), (2, 0)] [] _)
      · exact Sd.weak (by decide) (S_281)
      · refine sd_aload_n hC 20 dX10_goesOn_241 rfl (by decide) (by decide) (?_ : Sd X 242 [(0, 20), (1, 0), (2, 0)] [20] _)
        refine sd_iconst hC dX10_goesOn_242 ⟨by decide, by decide⟩ (?_ : Sd X 243 [(0, 20), (1, 0), (2, 0)] [0, 20] _)
        refine sd_put hC (ci := 10) (j := 9) (C := RX10) (T := TX10) (N := 45) tyX10 tyX10_ok nmX10 rfl rfl (by decide) in_X10 rfl rfl wl_5_173 dX10_goesOn_243 (?_ : Sd X 246 [(0, 20), (1, 0), (2, 0)] [] _)
        refine sd_goto (tgt := 281) hC dX10_goesOn_246 rfl (?_ : Sd X 281 [(0, 20), (1, 0), (2, 0)] [] _)
        exact Sd.weak (by decide) (S_281)
    · refine sd_iload_n hC dX10_goesOn_192 rfl (by decide) (?_ : Sd X 193 [(0, 20), (1, 0), (2, 0)] [0] _)
      refine sd_iconst hC dX10_goesOn_193 ⟨by decide, by decide⟩ (?_ : Sd X 194 [(0, 20), (1, 0), (2, 0)] [0, 0] _)
      refine sd_icmp_ge (tgt := 220) hC dX10_goesOn_194 rfl (?_ : Sd X 220 [(0, 20), (1, 0), (2, 0)] [] _) (?_ : Sd X 197 [(0, 20), (1, 0), (2, 0)] [] _)
      · exact Sd.weak (by decide) (S_220 k178 h178)
      · refine sd_aload_n hC 20 dX10_goesOn_197 rfl (by decide) (by decide) (?_ : Sd X 198 [(0, 20), (1, 0), (2, 0)] [20] _)
        refine sd_bipush hC dX10_goesOn_198 (by decide) (?_ : Sd X 200 [(0, 20), (1, 0), (2, 0)] [0, 20] _)
        refine sd_aload_n hC 20 dX10_goesOn_200 rfl (by decide) (by decide) (?_ : Sd X 201 [(0, 20), (1, 0), (2, 0)] [20, 0, 20] _)
        refine sd_get hC (ci := 10) (j := 12) (C := RX10) (T := TX10) (N := 45) rfl rfl (by decide) in_X10 wl_5_176 dX10_goesOn_201 (?_ : Sd X 204 [(0, 20), (1, 0), (2, 0)] [0, 0, 20] _)
        refine sd_imul hC dX10_goesOn_204 (?_ : Sd X 205 [(0, 20), (1, 0), (2, 0)] [0, 20] _)
        refine sd_aload_n hC 20 dX10_goesOn_205 rfl (by decide) (by decide) (?_ : Sd X 206 [(0, 20), (1, 0), (2, 0)] [20, 0, 20] _)
        refine sd_aload_n hC 20 dX10_goesOn_206 rfl (by decide) (by decide) (?_ : Sd X 207 [(0, 20), (1, 0), (2, 0)] [20, 20, 0, 20] _)
        refine sd_get hC (ci := 10) (j := 8) (C := RX10) (T := TX10) (N := 45) rfl rfl (by decide) in_X10 wl_5_172 dX10_goesOn_207 (?_ : Sd X 210 [(0, 20), (1, 0), (2, 0)] [0, 20, 0, 20] _)
        refine sd_inv0 (τ := [0, 20]) (τr := [0]) (ci := 10) (q := (RX10, TX10, 45)) hC WG (M_X10_byteAt _) rfl rfl rfl rfl  rfl rfl wl_6_193 wl_6_195 wp_65 wl_1_10 wl_6_196 hd_X10_byteAt (by rw [e3]; decide) (by decide) dX10_goesOn_210 (?_ : Sd X 213 [(0, 20), (1, 0), (2, 0)] [0, 0, 20] _)
        refine sd_iadd hC dX10_goesOn_213 (?_ : Sd X 214 [(0, 20), (1, 0), (2, 0)] [0, 20] _)
        refine sd_bipush hC dX10_goesOn_214 (by decide) (?_ : Sd X 216 [(0, 20), (1, 0), (2, 0)] [0, 0, 20] _)
        refine sd_isub hC dX10_goesOn_216 (?_ : Sd X 217 [(0, 20), (1, 0), (2, 0)] [0, 20] _)
        refine sd_put hC (ci := 10) (j := 12) (C := RX10) (T := TX10) (N := 45) tyX10 tyX10_ok nmX10 rfl rfl (by decide) in_X10 rfl rfl wl_5_176 dX10_goesOn_217 (?_ : Sd X 220 [(0, 20), (1, 0), (2, 0)] [] _)
        exact Sd.weak (by decide) (S_220 k178 h178)
  have S_136 : ∀ (k89 : tK), Sd X 89 [(0, 20), (1, 0), (2, 0)] [] k89 → Sd X 136 [(0, 20), (1, 0), (2, 0)] [] (B_X10_goesOn_136 Q k89) := by
    intro k89 h89
    unfold B_X10_goesOn_136
    refine sd_iinc (Γ' := [(0, 20), (1, 0), (2, 0)]) hC dX10_goesOn_136 (by decide) (by rw [e2]; decide) (by decide) (?_ : Sd X 139 [(0, 20), (1, 0), (2, 0)] [] _)
    refine sd_aload_n hC 20 dX10_goesOn_139 rfl (by decide) (by decide) (?_ : Sd X 140 [(0, 20), (1, 0), (2, 0)] [20] _)
    refine sd_dup hC (by decide) dX10_goesOn_140 (?_ : Sd X 141 [(0, 20), (1, 0), (2, 0)] [20, 20] _)
    refine sd_get hC (ci := 10) (j := 8) (C := RX10) (T := TX10) (N := 45) rfl rfl (by decide) in_X10 wl_5_172 dX10_goesOn_141 (?_ : Sd X 144 [(0, 20), (1, 0), (2, 0)] [0, 20] _)
    refine sd_iconst hC dX10_goesOn_144 ⟨by decide, by decide⟩ (?_ : Sd X 145 [(0, 20), (1, 0), (2, 0)] [0, 0, 20] _)
    refine sd_iadd hC dX10_goesOn_145 (?_ : Sd X 146 [(0, 20), (1, 0), (2, 0)] [0, 20] _)
    refine sd_put hC (ci := 10) (j := 8) (C := RX10) (T := TX10) (N := 45) tyX10 tyX10_ok nmX10 rfl rfl (by decide) in_X10 rfl rfl wl_5_172 dX10_goesOn_146 (?_ : Sd X 149 [(0, 20), (1, 0), (2, 0)] [] _)
    refine sd_goto (tgt := 89) hC dX10_goesOn_149 rfl (?_ : Sd X 89 [(0, 20), (1, 0), (2, 0)] [] _)
    exact Sd.weak (by decide) h89
  have S_89 : Sd X 89 [(0, 20), (1, 0), (2, 0)] [] (L_X10_goesOn_89 Q) := by
    unfold L_X10_goesOn_89
    refine Sd.loop (fun k89 h89 => ?_)
    refine sd_aload_n hC 20 dX10_goesOn_89 rfl (by decide) (by decide) (?_ : Sd X 90 [(0, 20), (1, 0), (2, 0)] [20] _)
    refine sd_aload_n hC 20 dX10_goesOn_90 rfl (by decide) (by decide) (?_ : Sd X 91 [(0, 20), (1, 0), (2, 0)] [20, 20] _)
    refine sd_get hC (ci := 10) (j := 8) (C := RX10) (T := TX10) (N := 45) rfl rfl (by decide) in_X10 wl_5_172 dX10_goesOn_91 (?_ : Sd X 94 [(0, 20), (1, 0), (2, 0)] [0, 20] _)
    refine sd_inv0 (τ := []) (τr := [0]) (ci := 10) (q := (RX10, TX10, 45)) hC WG (M_X10_byteAt _) rfl rfl rfl rfl  rfl rfl wl_6_193 wl_6_195 wp_65 wl_1_10 wl_6_196 hd_X10_byteAt (by rw [e3]; decide) (by decide) dX10_goesOn_94 (?_ : Sd X 97 [(0, 20), (1, 0), (2, 0)] [0] _)
    refine sd_invs (τ := []) (τs := [0]) hC false "" WG (M_X10_isLetter _) rfl rfl rfl rfl wl_6_197 wl_6_198 wl_1_10 wl_6_199 hd_X10_isLetter (by rw [e3]; decide) (by decide) dX10_goesOn_97 (?_ : Sd X 100 [(0, 20), (1, 0), (2, 0)] [0] _)
    refine sd_if_eq (tgt := 152) hC dX10_goesOn_100 rfl (?_ : Sd X 152 [(0, 20), (1, 0), (2, 0)] [] _) (?_ : Sd X 103 [(0, 20), (1, 0), (2, 0)] [] _)
    · refine sd_iload_n hC dX10_goesOn_152 rfl (by decide) (?_ : Sd X 153 [(0, 20), (1, 0), (2, 0)] [0] _)
      refine sd_bipush hC dX10_goesOn_153 (by decide) (?_ : Sd X 155 [(0, 20), (1, 0), (2, 0)] [0, 0] _)
      refine sd_icmp_gt (tgt := 281) hC dX10_goesOn_155 rfl (?_ : Sd X 281 [(0, 20), (1, 0), (2, 0)] [] _) (?_ : Sd X 158 [(0, 20), (1, 0), (2, 0)] [] _)
      · exact Sd.weak (by decide) (S_281)
      · refine sd_aload_n hC 20 dX10_goesOn_158 rfl (by decide) (by decide) (?_ : Sd X 159 [(0, 20), (1, 0), (2, 0)] [20] _)
        refine sd_iconst hC dX10_goesOn_159 ⟨by decide, by decide⟩ (?_ : Sd X 160 [(0, 20), (1, 0), (2, 0)] [0, 20] _)
        refine sd_put hC (ci := 10) (j := 9) (C := RX10) (T := TX10) (N := 45) tyX10 tyX10_ok nmX10 rfl rfl (by decide) in_X10 rfl rfl wl_5_173 dX10_goesOn_160 (?_ : Sd X 163 [(0, 20), (1, 0), (2, 0)] [] _)
        refine sd_goto (tgt := 281) hC dX10_goesOn_163 rfl (?_ : Sd X 281 [(0, 20), (1, 0), (2, 0)] [] _)
        exact Sd.weak (by decide) (S_281)
    · refine sd_iload_n hC dX10_goesOn_103 rfl (by decide) (?_ : Sd X 104 [(0, 20), (1, 0), (2, 0)] [0] _)
      refine sd_bipush hC dX10_goesOn_104 (by decide) (?_ : Sd X 106 [(0, 20), (1, 0), (2, 0)] [0, 0] _)
      refine sd_icmp_ge (tgt := 136) hC dX10_goesOn_106 rfl (?_ : Sd X 136 [(0, 20), (1, 0), (2, 0)] [] _) (?_ : Sd X 109 [(0, 20), (1, 0), (2, 0)] [] _)
      · exact Sd.weak (by decide) (S_136 k89 h89)
      · refine sd_aload_n hC 20 dX10_goesOn_109 rfl (by decide) (by decide) (?_ : Sd X 110 [(0, 20), (1, 0), (2, 0)] [20] _)
        refine sd_ldc2 hC wl_6_200 dX10_goesOn_110 ⟨by decide, by decide⟩ (?_ : Sd X 113 [(0, 20), (1, 0), (2, 0)] [1, 20] _)
        refine sd_aload_n hC 20 dX10_goesOn_113 rfl (by decide) (by decide) (?_ : Sd X 114 [(0, 20), (1, 0), (2, 0)] [20, 1, 20] _)
        refine sd_get hC (ci := 10) (j := 15) (C := RX10) (T := TX10) (N := 45) rfl rfl (by decide) in_X10 wl_5_179 dX10_goesOn_114 (?_ : Sd X 117 [(0, 20), (1, 0), (2, 0)] [1, 1, 20] _)
        refine sd_lmul hC dX10_goesOn_117 (?_ : Sd X 118 [(0, 20), (1, 0), (2, 0)] [1, 20] _)
        refine sd_aload_n hC 20 dX10_goesOn_118 rfl (by decide) (by decide) (?_ : Sd X 119 [(0, 20), (1, 0), (2, 0)] [20, 1, 20] _)
        refine sd_aload_n hC 20 dX10_goesOn_119 rfl (by decide) (by decide) (?_ : Sd X 120 [(0, 20), (1, 0), (2, 0)] [20, 20, 1, 20] _)
        refine sd_get hC (ci := 10) (j := 8) (C := RX10) (T := TX10) (N := 45) rfl rfl (by decide) in_X10 wl_5_172 dX10_goesOn_120 (?_ : Sd X 123 [(0, 20), (1, 0), (2, 0)] [0, 20, 1, 20] _)
        refine sd_inv0 (τ := [1, 20]) (τr := [0]) (ci := 10) (q := (RX10, TX10, 45)) hC WG (M_X10_byteAt _) rfl rfl rfl rfl  rfl rfl wl_6_193 wl_6_195 wp_65 wl_1_10 wl_6_196 hd_X10_byteAt (by rw [e3]; decide) (by decide) dX10_goesOn_123 (?_ : Sd X 126 [(0, 20), (1, 0), (2, 0)] [0, 1, 20] _)
        refine sd_bipush hC dX10_goesOn_126 (by decide) (?_ : Sd X 128 [(0, 20), (1, 0), (2, 0)] [0, 0, 1, 20] _)
        refine sd_isub hC dX10_goesOn_128 (?_ : Sd X 129 [(0, 20), (1, 0), (2, 0)] [0, 1, 20] _)
        refine sd_iconst hC dX10_goesOn_129 ⟨by decide, by decide⟩ (?_ : Sd X 130 [(0, 20), (1, 0), (2, 0)] [0, 0, 1, 20] _)
        refine sd_iadd hC dX10_goesOn_130 (?_ : Sd X 131 [(0, 20), (1, 0), (2, 0)] [0, 1, 20] _)
        refine sd_i2l hC dX10_goesOn_131 (?_ : Sd X 132 [(0, 20), (1, 0), (2, 0)] [1, 1, 20] _)
        refine sd_ladd hC dX10_goesOn_132 (?_ : Sd X 133 [(0, 20), (1, 0), (2, 0)] [1, 20] _)
        refine sd_put hC (ci := 10) (j := 15) (C := RX10) (T := TX10) (N := 45) tyX10 tyX10_ok nmX10 rfl rfl (by decide) in_X10 rfl rfl wl_5_179 dX10_goesOn_133 (?_ : Sd X 136 [(0, 20), (1, 0), (2, 0)] [] _)
        exact Sd.weak (by decide) (S_136 k89 h89)
  have S_9 : Sd X 9 [(0, 20)] [] (L_X10_goesOn_9 Q) := by
    unfold L_X10_goesOn_9
    refine Sd.loop (fun k9 h9 => ?_)
    refine sd_aload_n hC 20 dX10_goesOn_9 rfl (by decide) (by decide) (?_ : Sd X 10 [(0, 20)] [20] _)
    refine sd_aload_n hC 20 dX10_goesOn_10 rfl (by decide) (by decide) (?_ : Sd X 11 [(0, 20)] [20, 20] _)
    refine sd_get hC (ci := 10) (j := 8) (C := RX10) (T := TX10) (N := 45) rfl rfl (by decide) in_X10 wl_5_172 dX10_goesOn_11 (?_ : Sd X 14 [(0, 20)] [0, 20] _)
    refine sd_inv0 (τ := []) (τr := [0]) (ci := 10) (q := (RX10, TX10, 45)) hC WG (M_X10_byteAt _) rfl rfl rfl rfl  rfl rfl wl_6_193 wl_6_195 wp_65 wl_1_10 wl_6_196 hd_X10_byteAt (by rw [e3]; decide) (by decide) dX10_goesOn_14 (?_ : Sd X 17 [(0, 20)] [0] _)
    refine sd_bipush hC dX10_goesOn_17 (by decide) (?_ : Sd X 19 [(0, 20)] [0, 0] _)
    refine sd_icmp_ne (tgt := 35) hC dX10_goesOn_19 rfl (?_ : Sd X 35 [(0, 20)] [] _) (?_ : Sd X 22 [(0, 20)] [] _)
    · refine sd_aload_n hC 20 dX10_goesOn_35 rfl (by decide) (by decide) (?_ : Sd X 36 [(0, 20)] [20] _)
      refine sd_aload_n hC 20 dX10_goesOn_36 rfl (by decide) (by decide) (?_ : Sd X 37 [(0, 20)] [20, 20] _)
      refine sd_get hC (ci := 10) (j := 8) (C := RX10) (T := TX10) (N := 45) rfl rfl (by decide) in_X10 wl_5_172 dX10_goesOn_37 (?_ : Sd X 40 [(0, 20)] [0, 20] _)
      refine sd_put hC (ci := 10) (j := 10) (C := RX10) (T := TX10) (N := 45) tyX10 tyX10_ok nmX10 rfl rfl (by decide) in_X10 rfl rfl wl_5_174 dX10_goesOn_40 (?_ : Sd X 43 [(0, 20)] [] _)
      refine sd_aload_n hC 20 dX10_goesOn_43 rfl (by decide) (by decide) (?_ : Sd X 44 [(0, 20)] [20] _)
      refine sd_iconst hC dX10_goesOn_44 ⟨by decide, by decide⟩ (?_ : Sd X 45 [(0, 20)] [0, 20] _)
      refine sd_put hC (ci := 10) (j := 9) (C := RX10) (T := TX10) (N := 45) tyX10 tyX10_ok nmX10 rfl rfl (by decide) in_X10 rfl rfl wl_5_173 dX10_goesOn_45 (?_ : Sd X 48 [(0, 20)] [] _)
      refine sd_aload_n hC 20 dX10_goesOn_48 rfl (by decide) (by decide) (?_ : Sd X 49 [(0, 20)] [20] _)
      refine sd_iconst hC dX10_goesOn_49 ⟨by decide, by decide⟩ (?_ : Sd X 50 [(0, 20)] [0, 20] _)
      refine sd_put hC (ci := 10) (j := 11) (C := RX10) (T := TX10) (N := 45) tyX10 tyX10_ok nmX10 rfl rfl (by decide) in_X10 rfl rfl wl_5_175 dX10_goesOn_50 (?_ : Sd X 53 [(0, 20)] [] _)
      refine sd_aload_n hC 20 dX10_goesOn_53 rfl (by decide) (by decide) (?_ : Sd X 54 [(0, 20)] [20] _)
      refine sd_aload_n hC 20 dX10_goesOn_54 rfl (by decide) (by decide) (?_ : Sd X 55 [(0, 20)] [20, 20] _)
      refine sd_get hC (ci := 10) (j := 8) (C := RX10) (T := TX10) (N := 45) rfl rfl (by decide) in_X10 wl_5_172 dX10_goesOn_55 (?_ : Sd X 58 [(0, 20)] [0, 20] _)
      refine sd_inv0 (τ := []) (τr := [0]) (ci := 10) (q := (RX10, TX10, 45)) hC WG (M_X10_byteAt _) rfl rfl rfl rfl  rfl rfl wl_6_193 wl_6_195 wp_65 wl_1_10 wl_6_196 hd_X10_byteAt (by rw [e3]; decide) (by decide) dX10_goesOn_58 (?_ : Sd X 61 [(0, 20)] [0] _)
      refine sd_istore_n (Γ' := [(0, 20), (1, 0)]) hC dX10_goesOn_61 rfl (by rw [e2]; decide) (by decide) (?_ : Sd X 62 [(0, 20), (1, 0)] [] _)
      refine sd_iconst hC dX10_goesOn_62 ⟨by decide, by decide⟩ (?_ : Sd X 63 [(0, 20), (1, 0)] [0] _)
      refine sd_istore_n (Γ' := [(0, 20), (1, 0), (2, 0)]) hC dX10_goesOn_63 rfl (by rw [e2]; decide) (by decide) (?_ : Sd X 64 [(0, 20), (1, 0), (2, 0)] [] _)
      refine sd_iload_n hC dX10_goesOn_64 rfl (by decide) (?_ : Sd X 65 [(0, 20), (1, 0), (2, 0)] [0] _)
      refine sd_iconst hC dX10_goesOn_65 ⟨by decide, by decide⟩ (?_ : Sd X 66 [(0, 20), (1, 0), (2, 0)] [0, 0] _)
      refine sd_icmp_ne (tgt := 77) hC dX10_goesOn_66 rfl (?_ : Sd X 77 [(0, 20), (1, 0), (2, 0)] [] _) (?_ : Sd X 69 [(0, 20), (1, 0), (2, 0)] [] _)
      · refine sd_iload_n hC dX10_goesOn_77 rfl (by decide) (?_ : Sd X 78 [(0, 20), (1, 0), (2, 0)] [0] _)
        refine sd_invs (τ := []) (τs := [0]) hC false "" WG (M_X10_isLetter _) rfl rfl rfl rfl wl_6_197 wl_6_198 wl_1_10 wl_6_199 hd_X10_isLetter (by rw [e3]; decide) (by decide) dX10_goesOn_78 (?_ : Sd X 81 [(0, 20), (1, 0), (2, 0)] [0] _)
        refine sd_if_eq (tgt := 166) hC dX10_goesOn_81 rfl (?_ : Sd X 166 [(0, 20), (1, 0), (2, 0)] [] _) (?_ : Sd X 84 [(0, 20), (1, 0), (2, 0)] [] _)
        · refine sd_iload_n hC dX10_goesOn_166 rfl (by decide) (?_ : Sd X 167 [(0, 20), (1, 0), (2, 0)] [0] _)
          refine sd_invs (τ := []) (τs := [0]) hC false "" WG (M_X10_isDigit _) rfl rfl rfl rfl wl_6_201 wl_6_202 wl_1_10 wl_6_203 hd_X10_isDigit (by rw [e3]; decide) (by decide) dX10_goesOn_167 (?_ : Sd X 170 [(0, 20), (1, 0), (2, 0)] [0] _)
          refine sd_if_eq (tgt := 249) hC dX10_goesOn_170 rfl (?_ : Sd X 249 [(0, 20), (1, 0), (2, 0)] [] _) (?_ : Sd X 173 [(0, 20), (1, 0), (2, 0)] [] _)
          · refine sd_iload_n hC dX10_goesOn_249 rfl (by decide) (?_ : Sd X 250 [(0, 20), (1, 0), (2, 0)] [0] _)
            refine sd_bipush hC dX10_goesOn_250 (by decide) (?_ : Sd X 252 [(0, 20), (1, 0), (2, 0)] [0, 0] _)
            refine sd_icmp_eq (tgt := 261) hC dX10_goesOn_252 rfl (?_ : Sd X 261 [(0, 20), (1, 0), (2, 0)] [] _) (?_ : Sd X 255 [(0, 20), (1, 0), (2, 0)] [] _)
            · exact Sd.weak (by decide) (S_261)
            · refine sd_iload_n hC dX10_goesOn_255 rfl (by decide) (?_ : Sd X 256 [(0, 20), (1, 0), (2, 0)] [0] _)
              refine sd_bipush hC dX10_goesOn_256 (by decide) (?_ : Sd X 258 [(0, 20), (1, 0), (2, 0)] [0, 0] _)
              refine sd_icmp_ne (tgt := 281) hC dX10_goesOn_258 rfl (?_ : Sd X 281 [(0, 20), (1, 0), (2, 0)] [] _) (?_ : Sd X 261 [(0, 20), (1, 0), (2, 0)] [] _)
              · exact Sd.weak (by decide) (S_281)
              · exact Sd.weak (by decide) (S_261)
          · refine sd_aload_n hC 20 dX10_goesOn_173 rfl (by decide) (by decide) (?_ : Sd X 174 [(0, 20), (1, 0), (2, 0)] [20] _)
            refine sd_iconst hC dX10_goesOn_174 ⟨by decide, by decide⟩ (?_ : Sd X 175 [(0, 20), (1, 0), (2, 0)] [0, 20] _)
            refine sd_put hC (ci := 10) (j := 12) (C := RX10) (T := TX10) (N := 45) tyX10 tyX10_ok nmX10 rfl rfl (by decide) in_X10 rfl rfl wl_5_176 dX10_goesOn_175 (?_ : Sd X 178 [(0, 20), (1, 0), (2, 0)] [] _)
            exact Sd.weak (by decide) (S_178)
        · refine sd_aload_n hC 20 dX10_goesOn_84 rfl (by decide) (by decide) (?_ : Sd X 85 [(0, 20), (1, 0), (2, 0)] [20] _)
          refine sd_lconst hC rfl dX10_goesOn_85 (?_ : Sd X 86 [(0, 20), (1, 0), (2, 0)] [1, 20] _)
          refine sd_put hC (ci := 10) (j := 15) (C := RX10) (T := TX10) (N := 45) tyX10 tyX10_ok nmX10 rfl rfl (by decide) in_X10 rfl rfl wl_5_179 dX10_goesOn_86 (?_ : Sd X 89 [(0, 20), (1, 0), (2, 0)] [] _)
          exact Sd.weak (by decide) (S_89)
      · refine sd_aload_n hC 20 dX10_goesOn_69 rfl (by decide) (by decide) (?_ : Sd X 70 [(0, 20), (1, 0), (2, 0)] [20] _)
        refine sd_iconst hC dX10_goesOn_70 ⟨by decide, by decide⟩ (?_ : Sd X 71 [(0, 20), (1, 0), (2, 0)] [0, 20] _)
        refine sd_put hC (ci := 10) (j := 9) (C := RX10) (T := TX10) (N := 45) tyX10 tyX10_ok nmX10 rfl rfl (by decide) in_X10 rfl rfl wl_5_173 dX10_goesOn_71 (?_ : Sd X 74 [(0, 20), (1, 0), (2, 0)] [] _)
        refine sd_goto (tgt := 281) hC dX10_goesOn_74 rfl (?_ : Sd X 281 [(0, 20), (1, 0), (2, 0)] [] _)
        exact Sd.weak (by decide) (S_281)
    · refine sd_aload_n hC 20 dX10_goesOn_22 rfl (by decide) (by decide) (?_ : Sd X 23 [(0, 20)] [20] _)
      refine sd_dup hC (by decide) dX10_goesOn_23 (?_ : Sd X 24 [(0, 20)] [20, 20] _)
      refine sd_get hC (ci := 10) (j := 8) (C := RX10) (T := TX10) (N := 45) rfl rfl (by decide) in_X10 wl_5_172 dX10_goesOn_24 (?_ : Sd X 27 [(0, 20)] [0, 20] _)
      refine sd_iconst hC dX10_goesOn_27 ⟨by decide, by decide⟩ (?_ : Sd X 28 [(0, 20)] [0, 0, 20] _)
      refine sd_iadd hC dX10_goesOn_28 (?_ : Sd X 29 [(0, 20)] [0, 20] _)
      refine sd_put hC (ci := 10) (j := 8) (C := RX10) (T := TX10) (N := 45) tyX10 tyX10_ok nmX10 rfl rfl (by decide) in_X10 rfl rfl wl_5_172 dX10_goesOn_29 (?_ : Sd X 32 [(0, 20)] [] _)
      refine sd_goto (tgt := 9) hC dX10_goesOn_32 rfl (?_ : Sd X 9 [(0, 20)] [] _)
      exact Sd.weak (by decide) h9
  refine (?_ : Sd X 0 [(0, 20)] [] (E_X10_goesOn Q))
  unfold E_X10_goesOn
  refine sd_aload_n hC 20 dX10_goesOn_0 rfl (by decide) (by decide) (?_ : Sd X 1 [(0, 20)] [20] _)
  refine sd_get hC (ci := 10) (j := 9) (C := RX10) (T := TX10) (N := 45) rfl rfl (by decide) in_X10 wl_5_173 dX10_goesOn_1 (?_ : Sd X 4 [(0, 20)] [0] _)
  refine sd_iconst hC dX10_goesOn_4 ⟨by decide, by decide⟩ (?_ : Sd X 5 [(0, 20)] [0, 0] _)
  refine sd_icmp_ne (tgt := 9) hC dX10_goesOn_5 rfl (?_ : Sd X 9 [(0, 20)] [] _) (?_ : Sd X 8 [(0, 20)] [] _)
  · exact Sd.weak (by decide) (S_9)
  · exact sd_return hC hT dX10_goesOn_8
theorem wl_6_189 : Cond.methodLink RX10 132 yX10_goesOn ∈ WALL := tb6 (List.mem_of_getElem? (i := 189) rfl) rfl
theorem wl_6_191 : Cond.instanceMethod yX10_goesOn ∈ WALL := tb6 (List.mem_of_getElem? (i := 191) rfl) rfl
theorem wp_64 : Cond.selects RX10 yX10_goesOn yX10_goesOn ∈ WALL := tbS (List.mem_of_getElem? (i := 64) rfl)
theorem wl_6_192 : Cond.code yX10_goesOn cX10_goesOn 3 none ∈ WALL := tb6 (List.mem_of_getElem? (i := 192) rfl) rfl
theorem wl_5_168 : Cond.fieldLink RX10 170 "NarrowRingsModel" "read" "LNarrowRingsModel$City;" ∈ WALL := tb5 (List.mem_of_getElem? (i := 168) rfl) rfl
theorem wl_6_226 : Cond.methodLink RX10 135 yX10_wrong ∈ WALL := tb6 (List.mem_of_getElem? (i := 226) rfl) rfl
theorem wl_6_228 : Cond.instanceMethod yX10_wrong ∈ WALL := tb6 (List.mem_of_getElem? (i := 228) rfl) rfl
theorem wp_70 : Cond.selects RX10 yX10_wrong yX10_wrong ∈ WALL := tbS (List.mem_of_getElem? (i := 70) rfl)
theorem wl_6_229 : Cond.code yX10_wrong cX10_wrong 2 none ∈ WALL := tb6 (List.mem_of_getElem? (i := 229) rfl) rfl
theorem hd_X10_begins : yX10_begins.cls ≠ "java/lang/invoke/MethodHandle" ∧ yX10_begins.cls ≠ "java/lang/invoke/VarHandle" ∧ (parseMethodDescriptor yX10_begins.desc).map (fun d => d.parameters.length) = some 3 := by decide +kernel
set_option maxRecDepth 100000 in
set_option maxHeartbeats 4000000 in
theorem M_X10_begins (l : Launch) : Mt l yX10_begins (Cond.code yX10_begins cX10_begins 4 none :: WALL) { frames := 2, cells := 0, slots := 0, locals := 43 } [20, 0, 0, 0] none T_X10_begins := by
  refine Mt.mk (B := E_X10_begins) (by decide +kernel) (by decide) (fun _ _ _ hh => hh) ?_
  intro X Q e1 e2 e3 hC hN hT
  subst e1
  have hC : CF X cX10_begins RX10 WALL := hC
  have S_30 : Sd X 30 [(0, 20), (1, 0), (2, 0), (3, 0)] [] (B_X10_begins_30 Q) := by
    unfold B_X10_begins_30
    refine sd_aload_n hC 20 dX10_begins_30 rfl (by decide) (by decide) (?_ : Sd X 31 [(0, 20), (1, 0), (2, 0), (3, 0)] [20] _)
    refine sd_inv0v (τ := []) (τr := []) (ci := 10) (q := (RX10, TX10, 45)) hC WG (M_X10_goesOn _) rfl rfl rfl rfl  rfl rfl wl_6_189 wl_6_191 wp_64 wl_1_10 wl_6_192 hd_X10_goesOn (by rw [e3]; decide) (by decide) dX10_begins_31 (?_ : Sd X 34 [(0, 20), (1, 0), (2, 0), (3, 0)] [] _)
    exact sd_return hC hT dX10_begins_34
  have S_10 : Sd X 10 [(0, 20), (1, 0), (2, 0), (3, 0)] [] (B_X10_begins_10 Q) := by
    unfold B_X10_begins_10
    refine sd_iload_n hC dX10_begins_10 rfl (by decide) (?_ : Sd X 11 [(0, 20), (1, 0), (2, 0), (3, 0)] [0] _)
    refine sd_if_eq (tgt := 30) hC dX10_begins_11 rfl (?_ : Sd X 30 [(0, 20), (1, 0), (2, 0), (3, 0)] [] _) (?_ : Sd X 14 [(0, 20), (1, 0), (2, 0), (3, 0)] [] _)
    · exact Sd.weak (by decide) (S_30)
    · refine sd_aload_n hC 20 dX10_begins_14 rfl (by decide) (by decide) (?_ : Sd X 15 [(0, 20), (1, 0), (2, 0), (3, 0)] [20] _)
      refine sd_get hC (ci := 10) (j := 4) (C := RX10) (T := TX10) (N := 45) rfl rfl (by decide) in_X10 wl_5_168 dX10_begins_15 (?_ : Sd X 18 [(0, 20), (1, 0), (2, 0), (3, 0)] [19] _)
      refine sd_getN hC (ci := 9) (j := 0) (C := RX9) (T := TX9) (N := 28) (host := "NarrowRingsModel") rfl rfl (by decide) in_X9 (by decide) dX10_begins_18 (?_ : Sd X 21 [(0, 20), (1, 0), (2, 0), (3, 0)] [0] _)
      refine sd_if_ne (tgt := 30) hC dX10_begins_21 rfl (?_ : Sd X 30 [(0, 20), (1, 0), (2, 0), (3, 0)] [] _) (?_ : Sd X 24 [(0, 20), (1, 0), (2, 0), (3, 0)] [] _)
      · exact Sd.weak (by decide) (S_30)
      · refine sd_aload_n hC 20 dX10_begins_24 rfl (by decide) (by decide) (?_ : Sd X 25 [(0, 20), (1, 0), (2, 0), (3, 0)] [20] _)
        refine sd_bipush hC dX10_begins_25 (by decide) (?_ : Sd X 27 [(0, 20), (1, 0), (2, 0), (3, 0)] [0, 20] _)
        refine sd_inv0v (τ := []) (τr := [0]) (ci := 10) (q := (RX10, TX10, 45)) hC WG (M_X10_wrong _) rfl rfl rfl rfl  rfl rfl wl_6_226 wl_6_228 wp_70 wl_1_10 wl_6_229 hd_X10_wrong (by rw [e3]; decide) (by decide) dX10_begins_27 (?_ : Sd X 30 [(0, 20), (1, 0), (2, 0), (3, 0)] [] _)
        exact Sd.weak (by decide) (S_30)
  refine (?_ : Sd X 0 [(0, 20), (1, 0), (2, 0), (3, 0)] [] (E_X10_begins Q))
  unfold E_X10_begins
  refine sd_iload_n hC dX10_begins_0 rfl (by decide) (?_ : Sd X 1 [(0, 20), (1, 0), (2, 0), (3, 0)] [0] _)
  refine sd_iload_n hC dX10_begins_1 rfl (by decide) (?_ : Sd X 2 [(0, 20), (1, 0), (2, 0), (3, 0)] [0, 0] _)
  refine sd_icmp_ne (tgt := 10) hC dX10_begins_2 rfl (?_ : Sd X 10 [(0, 20), (1, 0), (2, 0), (3, 0)] [] _) (?_ : Sd X 5 [(0, 20), (1, 0), (2, 0), (3, 0)] [] _)
  · exact Sd.weak (by decide) (S_10)
  · refine sd_aload_n hC 20 dX10_begins_5 rfl (by decide) (by decide) (?_ : Sd X 6 [(0, 20), (1, 0), (2, 0), (3, 0)] [20] _)
    refine sd_iconst hC dX10_begins_6 ⟨by decide, by decide⟩ (?_ : Sd X 7 [(0, 20), (1, 0), (2, 0), (3, 0)] [0, 20] _)
    refine sd_inv0v (τ := []) (τr := [0]) (ci := 10) (q := (RX10, TX10, 45)) hC WG (M_X10_wrong _) rfl rfl rfl rfl  rfl rfl wl_6_226 wl_6_228 wp_70 wl_1_10 wl_6_229 hd_X10_wrong (by rw [e3]; decide) (by decide) dX10_begins_7 (?_ : Sd X 10 [(0, 20), (1, 0), (2, 0), (3, 0)] [] _)
    exact Sd.weak (by decide) (S_10)
theorem hd_X10_bestLoads : yX10_bestLoads.cls ≠ "java/lang/invoke/MethodHandle" ∧ yX10_bestLoads.cls ≠ "java/lang/invoke/VarHandle" ∧ (parseMethodDescriptor yX10_bestLoads.desc).map (fun d => d.parameters.length) = some 1 := by decide +kernel
set_option maxRecDepth 100000 in
set_option maxHeartbeats 4000000 in
theorem M_X10_bestLoads (l : Launch) : Mt l yX10_bestLoads (Cond.code yX10_bestLoads cX10_bestLoads 2 (some .int) :: WALL) { frames := 0, cells := 0, slots := 0, locals := 0 } [20, 0] (some 0) T_X10_bestLoads := by
  refine Mt.mk (B := E_X10_bestLoads) (by decide +kernel) (by decide) (fun _ _ _ hh => hh) ?_
  intro X Q e1 e2 e3 hC hN hT
  subst e1
  have hC : CF X cX10_bestLoads RX10 WALL := hC
  have S_28 : Sd X 28 [(0, 20), (1, 0)] [0] (B_X10_bestLoads_28 Q) := by
    unfold B_X10_bestLoads_28
    exact sd_ireturn hC hT dX10_bestLoads_28
  refine (?_ : Sd X 0 [(0, 20), (1, 0)] [] (E_X10_bestLoads Q))
  unfold E_X10_bestLoads
  refine sd_aload_n hC 20 dX10_bestLoads_0 rfl (by decide) (by decide) (?_ : Sd X 1 [(0, 20), (1, 0)] [20] _)
  refine sd_get hC (ci := 10) (j := 27) (C := RX10) (T := TX10) (N := 45) rfl rfl (by decide) in_X10 wl_5_191 dX10_bestLoads_1 (?_ : Sd X 4 [(0, 20), (1, 0)] [0] _)
  refine sd_if_eq (tgt := 27) hC dX10_bestLoads_4 rfl (?_ : Sd X 27 [(0, 20), (1, 0)] [] _) (?_ : Sd X 7 [(0, 20), (1, 0)] [] _)
  · refine sd_iconst hC dX10_bestLoads_27 ⟨by decide, by decide⟩ (?_ : Sd X 28 [(0, 20), (1, 0)] [0] _)
    exact Sd.weak (by decide) (S_28)
  · refine sd_aload_n hC 20 dX10_bestLoads_7 rfl (by decide) (by decide) (?_ : Sd X 8 [(0, 20), (1, 0)] [20] _)
    refine sd_get hC (ci := 10) (j := 3) (C := RX10) (T := TX10) (N := 45) rfl rfl (by decide) in_X10 wl_5_167 dX10_bestLoads_8 (?_ : Sd X 11 [(0, 20), (1, 0)] [19] _)
    refine sd_getN hC (ci := 9) (j := 19) (C := RX9) (T := TX9) (N := 28) (host := "NarrowRingsModel") rfl rfl (by decide) in_X9 (by decide) dX10_bestLoads_11 (?_ : Sd X 14 [(0, 20), (1, 0)] [100] _)
    refine sd_aload_n hC 20 dX10_bestLoads_14 rfl (by decide) (by decide) (?_ : Sd X 15 [(0, 20), (1, 0)] [20, 100] _)
    refine sd_get hC (ci := 10) (j := 3) (C := RX10) (T := TX10) (N := 45) rfl rfl (by decide) in_X10 wl_5_167 dX10_bestLoads_15 (?_ : Sd X 18 [(0, 20), (1, 0)] [19, 100] _)
    refine sd_getN hC (ci := 9) (j := 20) (C := RX9) (T := TX9) (N := 28) (host := "NarrowRingsModel") rfl rfl (by decide) in_X9 (by decide) dX10_bestLoads_18 (?_ : Sd X 21 [(0, 20), (1, 0)] [100, 100] _)
    refine sd_iload_n hC dX10_bestLoads_21 rfl (by decide) (?_ : Sd X 22 [(0, 20), (1, 0)] [0, 100, 100] _)
    refine sd_iaload hC dX10_bestLoads_22 (?_ : Sd X 23 [(0, 20), (1, 0)] [0, 100] _)
    refine sd_iaload hC dX10_bestLoads_23 (?_ : Sd X 24 [(0, 20), (1, 0)] [0] _)
    refine sd_goto (tgt := 28) hC dX10_bestLoads_24 rfl (?_ : Sd X 28 [(0, 20), (1, 0)] [0] _)
    exact Sd.weak (by decide) (S_28)
theorem hd_X10_bounded : yX10_bounded.cls ≠ "java/lang/invoke/MethodHandle" ∧ yX10_bounded.cls ≠ "java/lang/invoke/VarHandle" ∧ (parseMethodDescriptor yX10_bounded.desc).map (fun d => d.parameters.length) = some 2 := by decide +kernel
set_option maxRecDepth 100000 in
set_option maxHeartbeats 4000000 in
theorem M_X10_bounded (l : Launch) : Mt l yX10_bounded (Cond.code yX10_bounded cX10_bounded 3 (some .int) :: WALL) { frames := 1, cells := 0, slots := 0, locals := 22 } [20, 0, 0] (some 0) T_X10_bounded := by
  refine Mt.mk (B := E_X10_bounded) (by decide +kernel) (by decide) (fun _ _ _ hh => hh) ?_
  intro X Q e1 e2 e3 hC hN hT
  subst e1
  have hC : CF X cX10_bounded RX10 WALL := hC
  have S_49 : Sd X 49 [(0, 20), (1, 0), (2, 0)] [0] (B_X10_bounded_49 Q) := by
    unfold B_X10_bounded_49
    exact sd_ireturn hC hT dX10_bounded_49
  have S_33 : Sd X 33 [(0, 20), (1, 0), (2, 0)] [] (B_X10_bounded_33 Q) := by
    unfold B_X10_bounded_33
    refine sd_aload_n hC 20 dX10_bounded_33 rfl (by decide) (by decide) (?_ : Sd X 34 [(0, 20), (1, 0), (2, 0)] [20] _)
    refine sd_get hC (ci := 10) (j := 9) (C := RX10) (T := TX10) (N := 45) rfl rfl (by decide) in_X10 wl_5_173 dX10_bounded_34 (?_ : Sd X 37 [(0, 20), (1, 0), (2, 0)] [0] _)
    refine sd_iconst hC dX10_bounded_37 ⟨by decide, by decide⟩ (?_ : Sd X 38 [(0, 20), (1, 0), (2, 0)] [0, 0] _)
    refine sd_icmp_ne (tgt := 45) hC dX10_bounded_38 rfl (?_ : Sd X 45 [(0, 20), (1, 0), (2, 0)] [] _) (?_ : Sd X 41 [(0, 20), (1, 0), (2, 0)] [] _)
    · refine sd_aload_n hC 20 dX10_bounded_45 rfl (by decide) (by decide) (?_ : Sd X 46 [(0, 20), (1, 0), (2, 0)] [20] _)
      refine sd_get hC (ci := 10) (j := 12) (C := RX10) (T := TX10) (N := 45) rfl rfl (by decide) in_X10 wl_5_176 dX10_bounded_46 (?_ : Sd X 49 [(0, 20), (1, 0), (2, 0)] [0] _)
      exact Sd.weak (by decide) (S_49)
    · refine sd_iload_n hC dX10_bounded_41 rfl (by decide) (?_ : Sd X 42 [(0, 20), (1, 0), (2, 0)] [0] _)
      refine sd_goto (tgt := 49) hC dX10_bounded_42 rfl (?_ : Sd X 49 [(0, 20), (1, 0), (2, 0)] [0] _)
      exact Sd.weak (by decide) (S_49)
  refine (?_ : Sd X 0 [(0, 20), (1, 0), (2, 0)] [] (E_X10_bounded Q))
  unfold E_X10_bounded
  refine sd_aload_n hC 20 dX10_bounded_0 rfl (by decide) (by decide) (?_ : Sd X 1 [(0, 20), (1, 0), (2, 0)] [20] _)
  refine sd_get hC (ci := 10) (j := 9) (C := RX10) (T := TX10) (N := 45) rfl rfl (by decide) in_X10 wl_5_173 dX10_bounded_1 (?_ : Sd X 4 [(0, 20), (1, 0), (2, 0)] [0] _)
  refine sd_iconst hC dX10_bounded_4 ⟨by decide, by decide⟩ (?_ : Sd X 5 [(0, 20), (1, 0), (2, 0)] [0, 0] _)
  refine sd_icmp_eq (tgt := 16) hC dX10_bounded_5 rfl (?_ : Sd X 16 [(0, 20), (1, 0), (2, 0)] [] _) (?_ : Sd X 8 [(0, 20), (1, 0), (2, 0)] [] _)
  · refine sd_aload_n hC 20 dX10_bounded_16 rfl (by decide) (by decide) (?_ : Sd X 17 [(0, 20), (1, 0), (2, 0)] [20] _)
    refine sd_get hC (ci := 10) (j := 12) (C := RX10) (T := TX10) (N := 45) rfl rfl (by decide) in_X10 wl_5_176 dX10_bounded_17 (?_ : Sd X 20 [(0, 20), (1, 0), (2, 0)] [0] _)
    refine sd_iload_n hC dX10_bounded_20 rfl (by decide) (?_ : Sd X 21 [(0, 20), (1, 0), (2, 0)] [0, 0] _)
    refine sd_iload_n hC dX10_bounded_21 rfl (by decide) (?_ : Sd X 22 [(0, 20), (1, 0), (2, 0)] [0, 0, 0] _)
    refine sd_invs (τ := []) (τs := [0, 0, 0]) hC false "" WG (M_X10_in _) rfl rfl rfl rfl wl_6_238 wl_6_239 wl_1_10 wl_7_0 hd_X10_in (by rw [e3]; decide) (by decide) dX10_bounded_22 (?_ : Sd X 25 [(0, 20), (1, 0), (2, 0)] [0] _)
    refine sd_if_ne (tgt := 33) hC dX10_bounded_25 rfl (?_ : Sd X 33 [(0, 20), (1, 0), (2, 0)] [] _) (?_ : Sd X 28 [(0, 20), (1, 0), (2, 0)] [] _)
    · exact Sd.weak (by decide) (S_33)
    · refine sd_aload_n hC 20 dX10_bounded_28 rfl (by decide) (by decide) (?_ : Sd X 29 [(0, 20), (1, 0), (2, 0)] [20] _)
      refine sd_iconst hC dX10_bounded_29 ⟨by decide, by decide⟩ (?_ : Sd X 30 [(0, 20), (1, 0), (2, 0)] [0, 20] _)
      refine sd_inv0v (τ := []) (τr := [0]) (ci := 10) (q := (RX10, TX10, 45)) hC WG (M_X10_wrong _) rfl rfl rfl rfl  rfl rfl wl_6_226 wl_6_228 wp_70 wl_1_10 wl_6_229 hd_X10_wrong (by rw [e3]; decide) (by decide) dX10_bounded_30 (?_ : Sd X 33 [(0, 20), (1, 0), (2, 0)] [] _)
      exact Sd.weak (by decide) (S_33)
  · refine sd_aload_n hC 20 dX10_bounded_8 rfl (by decide) (by decide) (?_ : Sd X 9 [(0, 20), (1, 0), (2, 0)] [20] _)
    refine sd_iconst hC dX10_bounded_9 ⟨by decide, by decide⟩ (?_ : Sd X 10 [(0, 20), (1, 0), (2, 0)] [0, 20] _)
    refine sd_inv0v (τ := []) (τr := [0]) (ci := 10) (q := (RX10, TX10, 45)) hC WG (M_X10_wrong _) rfl rfl rfl rfl  rfl rfl wl_6_226 wl_6_228 wp_70 wl_1_10 wl_6_229 hd_X10_wrong (by rw [e3]; decide) (by decide) dX10_bounded_10 (?_ : Sd X 13 [(0, 20), (1, 0), (2, 0)] [] _)
    refine sd_goto (tgt := 33) hC dX10_bounded_13 rfl (?_ : Sd X 33 [(0, 20), (1, 0), (2, 0)] [] _)
    exact Sd.weak (by decide) (S_33)
theorem hd_X10_isSize : yX10_isSize.cls ≠ "java/lang/invoke/MethodHandle" ∧ yX10_isSize.cls ≠ "java/lang/invoke/VarHandle" ∧ (parseMethodDescriptor yX10_isSize.desc).map (fun d => d.parameters.length) = some 1 := by decide +kernel
set_option maxRecDepth 100000 in
set_option maxHeartbeats 4000000 in
theorem M_X10_isSize (l : Launch) : Mt l yX10_isSize (Cond.code yX10_isSize cX10_isSize 1 (some .boolean) :: WALL) { frames := 1, cells := 0, slots := 0, locals := 22 } [0] (some 0) T_X10_isSize := by
  refine Mt.mk (B := E_X10_isSize) (by decide +kernel) (by decide) (fun _ _ _ hh => hh) ?_
  intro X Q e1 e2 e3 hC hN hT
  subst e1
  have hC : CF X cX10_isSize RX10 WALL := hC
  refine (?_ : Sd X 0 [(0, 0)] [] (E_X10_isSize Q))
  unfold E_X10_isSize
  refine sd_iload_n hC dX10_isSize_0 rfl (by decide) (?_ : Sd X 1 [(0, 0)] [0] _)
  refine sd_iconst hC dX10_isSize_1 ⟨by decide, by decide⟩ (?_ : Sd X 2 [(0, 0)] [0, 0] _)
  refine sd_bipush hC dX10_isSize_2 (by decide) (?_ : Sd X 4 [(0, 0)] [0, 0, 0] _)
  refine sd_invs (τ := []) (τs := [0, 0, 0]) hC false "" WG (M_X10_in _) rfl rfl rfl rfl wl_6_238 wl_6_239 wl_1_10 wl_7_0 hd_X10_in (by rw [e3]; decide) (by decide) dX10_isSize_4 (?_ : Sd X 7 [(0, 0)] [0] _)
  exact sd_zreturn hC hT dX10_isSize_7
theorem hd_X10_savesBy : yX10_savesBy.cls ≠ "java/lang/invoke/MethodHandle" ∧ yX10_savesBy.cls ≠ "java/lang/invoke/VarHandle" ∧ (parseMethodDescriptor yX10_savesBy.desc).map (fun d => d.parameters.length) = some 3 := by decide +kernel
set_option maxRecDepth 100000 in
set_option maxHeartbeats 4000000 in
theorem M_X10_savesBy (l : Launch) : Mt l yX10_savesBy (Cond.code yX10_savesBy cX10_savesBy 9 (some .int) :: WALL) { frames := 8, cells := 0, slots := 0, locals := 194 } [20, 0, 0, 0] (some 0) T_X10_savesBy := by
  refine Mt.mk (B := E_X10_savesBy) (by decide +kernel) (by decide) (fun _ _ _ hh => hh) ?_
  intro X Q e1 e2 e3 hC hN hT
  subst e1
  have hC : CF X cX10_savesBy RX10 WALL := hC
  have S_75 : Sd X 75 [(0, 20), (1, 0), (2, 0), (3, 0), (4, 0), (5, 0), (6, 0), (7, 0)] [0, 0, 100] (B_X10_savesBy_75 Q) := by
    unfold B_X10_savesBy_75
    refine sd_iastore hC dX10_savesBy_75 (?_ : Sd X 76 [(0, 20), (1, 0), (2, 0), (3, 0), (4, 0), (5, 0), (6, 0), (7, 0)] [] _)
    refine sd_iload hC dX10_savesBy_76 (by decide) (?_ : Sd X 78 [(0, 20), (1, 0), (2, 0), (3, 0), (4, 0), (5, 0), (6, 0), (7, 0)] [0] _)
    refine sd_aload_n hC 20 dX10_savesBy_78 rfl (by decide) (by decide) (?_ : Sd X 79 [(0, 20), (1, 0), (2, 0), (3, 0), (4, 0), (5, 0), (6, 0), (7, 0)] [20, 0] _)
    refine sd_inv0 (τ := [0]) (τr := []) (ci := 10) (q := (RX10, TX10, 45)) hC WG (M_X10_allNow _) rfl rfl rfl rfl  rfl rfl wl_8_19 wl_8_21 wp_113 wl_1_10 wl_8_22 hd_X10_allNow (by rw [e3]; decide) (by decide) dX10_savesBy_79 (?_ : Sd X 82 [(0, 20), (1, 0), (2, 0), (3, 0), (4, 0), (5, 0), (6, 0), (7, 0)] [0, 0] _)
    refine sd_isub hC dX10_savesBy_82 (?_ : Sd X 83 [(0, 20), (1, 0), (2, 0), (3, 0), (4, 0), (5, 0), (6, 0), (7, 0)] [0] _)
    refine sd_istore (Γ' := [(0, 20), (1, 0), (2, 0), (3, 0), (4, 0), (5, 0), (6, 0), (7, 0), (8, 0)]) hC dX10_savesBy_83 (by rw [e2]; decide) (by decide) (?_ : Sd X 85 [(0, 20), (1, 0), (2, 0), (3, 0), (4, 0), (5, 0), (6, 0), (7, 0), (8, 0)] [] _)
    refine sd_aload_n hC 20 dX10_savesBy_85 rfl (by decide) (by decide) (?_ : Sd X 86 [(0, 20), (1, 0), (2, 0), (3, 0), (4, 0), (5, 0), (6, 0), (7, 0), (8, 0)] [20] _)
    refine sd_get hC (ci := 10) (j := 16) (C := RX10) (T := TX10) (N := 45) rfl rfl (by decide) in_X10 wl_5_180 dX10_savesBy_86 (?_ : Sd X 89 [(0, 20), (1, 0), (2, 0), (3, 0), (4, 0), (5, 0), (6, 0), (7, 0), (8, 0)] [100] _)
    refine sd_iload hC dX10_savesBy_89 (by decide) (?_ : Sd X 91 [(0, 20), (1, 0), (2, 0), (3, 0), (4, 0), (5, 0), (6, 0), (7, 0), (8, 0)] [0, 100] _)
    refine sd_iconst hC dX10_savesBy_91 ⟨by decide, by decide⟩ (?_ : Sd X 92 [(0, 20), (1, 0), (2, 0), (3, 0), (4, 0), (5, 0), (6, 0), (7, 0), (8, 0)] [0, 0, 100] _)
    refine sd_iadd hC dX10_savesBy_92 (?_ : Sd X 93 [(0, 20), (1, 0), (2, 0), (3, 0), (4, 0), (5, 0), (6, 0), (7, 0), (8, 0)] [0, 100] _)
    refine sd_iload hC dX10_savesBy_93 (by decide) (?_ : Sd X 95 [(0, 20), (1, 0), (2, 0), (3, 0), (4, 0), (5, 0), (6, 0), (7, 0), (8, 0)] [0, 0, 100] _)
    refine sd_iastore hC dX10_savesBy_95 (?_ : Sd X 96 [(0, 20), (1, 0), (2, 0), (3, 0), (4, 0), (5, 0), (6, 0), (7, 0), (8, 0)] [] _)
    refine sd_aload_n hC 20 dX10_savesBy_96 rfl (by decide) (by decide) (?_ : Sd X 97 [(0, 20), (1, 0), (2, 0), (3, 0), (4, 0), (5, 0), (6, 0), (7, 0), (8, 0)] [20] _)
    refine sd_get hC (ci := 10) (j := 16) (C := RX10) (T := TX10) (N := 45) rfl rfl (by decide) in_X10 wl_5_180 dX10_savesBy_97 (?_ : Sd X 100 [(0, 20), (1, 0), (2, 0), (3, 0), (4, 0), (5, 0), (6, 0), (7, 0), (8, 0)] [100] _)
    refine sd_iload hC dX10_savesBy_100 (by decide) (?_ : Sd X 102 [(0, 20), (1, 0), (2, 0), (3, 0), (4, 0), (5, 0), (6, 0), (7, 0), (8, 0)] [0, 100] _)
    refine sd_iconst hC dX10_savesBy_102 ⟨by decide, by decide⟩ (?_ : Sd X 103 [(0, 20), (1, 0), (2, 0), (3, 0), (4, 0), (5, 0), (6, 0), (7, 0), (8, 0)] [0, 0, 100] _)
    refine sd_iadd hC dX10_savesBy_103 (?_ : Sd X 104 [(0, 20), (1, 0), (2, 0), (3, 0), (4, 0), (5, 0), (6, 0), (7, 0), (8, 0)] [0, 100] _)
    refine sd_iload hC dX10_savesBy_104 (by decide) (?_ : Sd X 106 [(0, 20), (1, 0), (2, 0), (3, 0), (4, 0), (5, 0), (6, 0), (7, 0), (8, 0)] [0, 0, 100] _)
    refine sd_iastore hC dX10_savesBy_106 (?_ : Sd X 107 [(0, 20), (1, 0), (2, 0), (3, 0), (4, 0), (5, 0), (6, 0), (7, 0), (8, 0)] [] _)
    refine sd_iload hC dX10_savesBy_107 (by decide) (?_ : Sd X 109 [(0, 20), (1, 0), (2, 0), (3, 0), (4, 0), (5, 0), (6, 0), (7, 0), (8, 0)] [0] _)
    exact sd_ireturn hC hT dX10_savesBy_109
  have S_54 : Sd X 54 [(0, 20), (1, 0), (2, 0), (3, 0), (4, 0), (5, 0), (6, 0), (7, 0)] [0, 0, 100] (B_X10_savesBy_54 Q) := by
    unfold B_X10_savesBy_54
    refine sd_iastore hC dX10_savesBy_54 (?_ : Sd X 55 [(0, 20), (1, 0), (2, 0), (3, 0), (4, 0), (5, 0), (6, 0), (7, 0)] [] _)
    refine sd_aload_n hC 20 dX10_savesBy_55 rfl (by decide) (by decide) (?_ : Sd X 56 [(0, 20), (1, 0), (2, 0), (3, 0), (4, 0), (5, 0), (6, 0), (7, 0)] [20] _)
    refine sd_get hC (ci := 10) (j := 16) (C := RX10) (T := TX10) (N := 45) rfl rfl (by decide) in_X10 wl_5_180 dX10_savesBy_56 (?_ : Sd X 59 [(0, 20), (1, 0), (2, 0), (3, 0), (4, 0), (5, 0), (6, 0), (7, 0)] [100] _)
    refine sd_iload hC dX10_savesBy_59 (by decide) (?_ : Sd X 61 [(0, 20), (1, 0), (2, 0), (3, 0), (4, 0), (5, 0), (6, 0), (7, 0)] [0, 100] _)
    refine sd_iconst hC dX10_savesBy_61 ⟨by decide, by decide⟩ (?_ : Sd X 62 [(0, 20), (1, 0), (2, 0), (3, 0), (4, 0), (5, 0), (6, 0), (7, 0)] [0, 0, 100] _)
    refine sd_iadd hC dX10_savesBy_62 (?_ : Sd X 63 [(0, 20), (1, 0), (2, 0), (3, 0), (4, 0), (5, 0), (6, 0), (7, 0)] [0, 100] _)
    refine sd_iload_n hC dX10_savesBy_63 rfl (by decide) (?_ : Sd X 64 [(0, 20), (1, 0), (2, 0), (3, 0), (4, 0), (5, 0), (6, 0), (7, 0)] [0, 0, 100] _)
    refine sd_iload hC dX10_savesBy_64 (by decide) (?_ : Sd X 66 [(0, 20), (1, 0), (2, 0), (3, 0), (4, 0), (5, 0), (6, 0), (7, 0)] [0, 0, 0, 100] _)
    refine sd_icmp_le (tgt := 73) hC dX10_savesBy_66 rfl (?_ : Sd X 73 [(0, 20), (1, 0), (2, 0), (3, 0), (4, 0), (5, 0), (6, 0), (7, 0)] [0, 100] _) (?_ : Sd X 69 [(0, 20), (1, 0), (2, 0), (3, 0), (4, 0), (5, 0), (6, 0), (7, 0)] [0, 100] _)
    · refine sd_iload hC dX10_savesBy_73 (by decide) (?_ : Sd X 75 [(0, 20), (1, 0), (2, 0), (3, 0), (4, 0), (5, 0), (6, 0), (7, 0)] [0, 0, 100] _)
      exact Sd.weak (by decide) (S_75)
    · refine sd_iload_n hC dX10_savesBy_69 rfl (by decide) (?_ : Sd X 70 [(0, 20), (1, 0), (2, 0), (3, 0), (4, 0), (5, 0), (6, 0), (7, 0)] [0, 0, 100] _)
      refine sd_goto (tgt := 75) hC dX10_savesBy_70 rfl (?_ : Sd X 75 [(0, 20), (1, 0), (2, 0), (3, 0), (4, 0), (5, 0), (6, 0), (7, 0)] [0, 0, 100] _)
      exact Sd.weak (by decide) (S_75)
  refine (?_ : Sd X 0 [(0, 20), (1, 0), (2, 0), (3, 0)] [] (E_X10_savesBy Q))
  unfold E_X10_savesBy
  refine sd_bipush hC dX10_savesBy_0 (by decide) (?_ : Sd X 2 [(0, 20), (1, 0), (2, 0), (3, 0)] [0] _)
  refine sd_iload_n hC dX10_savesBy_2 rfl (by decide) (?_ : Sd X 3 [(0, 20), (1, 0), (2, 0), (3, 0)] [0, 0] _)
  refine sd_imul hC dX10_savesBy_3 (?_ : Sd X 4 [(0, 20), (1, 0), (2, 0), (3, 0)] [0] _)
  refine sd_istore (Γ' := [(0, 20), (1, 0), (2, 0), (3, 0), (4, 0)]) hC dX10_savesBy_4 (by rw [e2]; decide) (by decide) (?_ : Sd X 6 [(0, 20), (1, 0), (2, 0), (3, 0), (4, 0)] [] _)
  refine sd_aload_n hC 20 dX10_savesBy_6 rfl (by decide) (by decide) (?_ : Sd X 7 [(0, 20), (1, 0), (2, 0), (3, 0), (4, 0)] [20] _)
  refine sd_get hC (ci := 10) (j := 16) (C := RX10) (T := TX10) (N := 45) rfl rfl (by decide) in_X10 wl_5_180 dX10_savesBy_7 (?_ : Sd X 10 [(0, 20), (1, 0), (2, 0), (3, 0), (4, 0)] [100] _)
  refine sd_iload hC dX10_savesBy_10 (by decide) (?_ : Sd X 12 [(0, 20), (1, 0), (2, 0), (3, 0), (4, 0)] [0, 100] _)
  refine sd_iconst hC dX10_savesBy_12 ⟨by decide, by decide⟩ (?_ : Sd X 13 [(0, 20), (1, 0), (2, 0), (3, 0), (4, 0)] [0, 0, 100] _)
  refine sd_iadd hC dX10_savesBy_13 (?_ : Sd X 14 [(0, 20), (1, 0), (2, 0), (3, 0), (4, 0)] [0, 100] _)
  refine sd_iaload hC dX10_savesBy_14 (?_ : Sd X 15 [(0, 20), (1, 0), (2, 0), (3, 0), (4, 0)] [0] _)
  refine sd_istore (Γ' := [(0, 20), (1, 0), (2, 0), (3, 0), (4, 0), (5, 0)]) hC dX10_savesBy_15 (by rw [e2]; decide) (by decide) (?_ : Sd X 17 [(0, 20), (1, 0), (2, 0), (3, 0), (4, 0), (5, 0)] [] _)
  refine sd_aload_n hC 20 dX10_savesBy_17 rfl (by decide) (by decide) (?_ : Sd X 18 [(0, 20), (1, 0), (2, 0), (3, 0), (4, 0), (5, 0)] [20] _)
  refine sd_get hC (ci := 10) (j := 16) (C := RX10) (T := TX10) (N := 45) rfl rfl (by decide) in_X10 wl_5_180 dX10_savesBy_18 (?_ : Sd X 21 [(0, 20), (1, 0), (2, 0), (3, 0), (4, 0), (5, 0)] [100] _)
  refine sd_iload hC dX10_savesBy_21 (by decide) (?_ : Sd X 23 [(0, 20), (1, 0), (2, 0), (3, 0), (4, 0), (5, 0)] [0, 100] _)
  refine sd_iconst hC dX10_savesBy_23 ⟨by decide, by decide⟩ (?_ : Sd X 24 [(0, 20), (1, 0), (2, 0), (3, 0), (4, 0), (5, 0)] [0, 0, 100] _)
  refine sd_iadd hC dX10_savesBy_24 (?_ : Sd X 25 [(0, 20), (1, 0), (2, 0), (3, 0), (4, 0), (5, 0)] [0, 100] _)
  refine sd_iaload hC dX10_savesBy_25 (?_ : Sd X 26 [(0, 20), (1, 0), (2, 0), (3, 0), (4, 0), (5, 0)] [0] _)
  refine sd_istore (Γ' := [(0, 20), (1, 0), (2, 0), (3, 0), (4, 0), (5, 0), (6, 0)]) hC dX10_savesBy_26 (by rw [e2]; decide) (by decide) (?_ : Sd X 28 [(0, 20), (1, 0), (2, 0), (3, 0), (4, 0), (5, 0), (6, 0)] [] _)
  refine sd_aload_n hC 20 dX10_savesBy_28 rfl (by decide) (by decide) (?_ : Sd X 29 [(0, 20), (1, 0), (2, 0), (3, 0), (4, 0), (5, 0), (6, 0)] [20] _)
  refine sd_inv0 (τ := []) (τr := []) (ci := 10) (q := (RX10, TX10, 45)) hC WG (M_X10_allNow _) rfl rfl rfl rfl  rfl rfl wl_8_19 wl_8_21 wp_113 wl_1_10 wl_8_22 hd_X10_allNow (by rw [e3]; decide) (by decide) dX10_savesBy_29 (?_ : Sd X 32 [(0, 20), (1, 0), (2, 0), (3, 0), (4, 0), (5, 0), (6, 0)] [0] _)
  refine sd_istore (Γ' := [(0, 20), (1, 0), (2, 0), (3, 0), (4, 0), (5, 0), (6, 0), (7, 0)]) hC dX10_savesBy_32 (by rw [e2]; decide) (by decide) (?_ : Sd X 34 [(0, 20), (1, 0), (2, 0), (3, 0), (4, 0), (5, 0), (6, 0), (7, 0)] [] _)
  refine sd_aload_n hC 20 dX10_savesBy_34 rfl (by decide) (by decide) (?_ : Sd X 35 [(0, 20), (1, 0), (2, 0), (3, 0), (4, 0), (5, 0), (6, 0), (7, 0)] [20] _)
  refine sd_get hC (ci := 10) (j := 16) (C := RX10) (T := TX10) (N := 45) rfl rfl (by decide) in_X10 wl_5_180 dX10_savesBy_35 (?_ : Sd X 38 [(0, 20), (1, 0), (2, 0), (3, 0), (4, 0), (5, 0), (6, 0), (7, 0)] [100] _)
  refine sd_iload hC dX10_savesBy_38 (by decide) (?_ : Sd X 40 [(0, 20), (1, 0), (2, 0), (3, 0), (4, 0), (5, 0), (6, 0), (7, 0)] [0, 100] _)
  refine sd_iconst hC dX10_savesBy_40 ⟨by decide, by decide⟩ (?_ : Sd X 41 [(0, 20), (1, 0), (2, 0), (3, 0), (4, 0), (5, 0), (6, 0), (7, 0)] [0, 0, 100] _)
  refine sd_iadd hC dX10_savesBy_41 (?_ : Sd X 42 [(0, 20), (1, 0), (2, 0), (3, 0), (4, 0), (5, 0), (6, 0), (7, 0)] [0, 100] _)
  refine sd_iload_n hC dX10_savesBy_42 rfl (by decide) (?_ : Sd X 43 [(0, 20), (1, 0), (2, 0), (3, 0), (4, 0), (5, 0), (6, 0), (7, 0)] [0, 0, 100] _)
  refine sd_iload hC dX10_savesBy_43 (by decide) (?_ : Sd X 45 [(0, 20), (1, 0), (2, 0), (3, 0), (4, 0), (5, 0), (6, 0), (7, 0)] [0, 0, 0, 100] _)
  refine sd_icmp_le (tgt := 52) hC dX10_savesBy_45 rfl (?_ : Sd X 52 [(0, 20), (1, 0), (2, 0), (3, 0), (4, 0), (5, 0), (6, 0), (7, 0)] [0, 100] _) (?_ : Sd X 48 [(0, 20), (1, 0), (2, 0), (3, 0), (4, 0), (5, 0), (6, 0), (7, 0)] [0, 100] _)
  · refine sd_iload hC dX10_savesBy_52 (by decide) (?_ : Sd X 54 [(0, 20), (1, 0), (2, 0), (3, 0), (4, 0), (5, 0), (6, 0), (7, 0)] [0, 0, 100] _)
    exact Sd.weak (by decide) (S_54)
  · refine sd_iload_n hC dX10_savesBy_48 rfl (by decide) (?_ : Sd X 49 [(0, 20), (1, 0), (2, 0), (3, 0), (4, 0), (5, 0), (6, 0), (7, 0)] [0, 0, 100] _)
    refine sd_goto (tgt := 54) hC dX10_savesBy_49 rfl (?_ : Sd X 54 [(0, 20), (1, 0), (2, 0), (3, 0), (4, 0), (5, 0), (6, 0), (7, 0)] [0, 0, 100] _)
    exact Sd.weak (by decide) (S_54)
theorem wl_8_119 : Cond.methodLink RX10 510 yX10_isSize ∈ WALL := tb8 (List.mem_of_getElem? (i := 119) rfl) rfl
theorem wl_8_120 : Cond.static yX10_isSize ∈ WALL := tb8 (List.mem_of_getElem? (i := 120) rfl) rfl
theorem wl_8_121 : Cond.code yX10_isSize cX10_isSize 1 (some .boolean) ∈ WALL := tb8 (List.mem_of_getElem? (i := 121) rfl) rfl
theorem wl_8_122 : Cond.methodLink RX10 513 yX10_savesBy ∈ WALL := tb8 (List.mem_of_getElem? (i := 122) rfl) rfl
theorem wl_8_124 : Cond.instanceMethod yX10_savesBy ∈ WALL := tb8 (List.mem_of_getElem? (i := 124) rfl) rfl
theorem wp_126 : Cond.selects RX10 yX10_savesBy yX10_savesBy ∈ WALL := tbS (List.mem_of_getElem? (i := 126) rfl)
theorem wl_8_125 : Cond.code yX10_savesBy cX10_savesBy 9 (some .int) ∈ WALL := tb8 (List.mem_of_getElem? (i := 125) rfl) rfl
theorem hd_X10_breach : yX10_breach.cls ≠ "java/lang/invoke/MethodHandle" ∧ yX10_breach.cls ≠ "java/lang/invoke/VarHandle" ∧ (parseMethodDescriptor yX10_breach.desc).map (fun d => d.parameters.length) = some 2 := by decide +kernel
set_option maxRecDepth 100000 in
set_option maxHeartbeats 4000000 in
theorem M_X10_breach (l : Launch) : Mt l yX10_breach (Cond.code yX10_breach cX10_breach 5 (some .int) :: WALL) { frames := 9, cells := 0, slots := 0, locals := 222 } [20, 0, 0] (some 0) T_X10_breach := by
  refine Mt.mk (B := E_X10_breach) (by decide +kernel) (by decide) (fun _ _ _ hh => hh) ?_
  intro X Q e1 e2 e3 hC hN hT
  subst e1
  have hC : CF X cX10_breach RX10 WALL := hC
  have S_32 : Sd X 32 [(0, 20), (1, 0), (2, 0)] [] (B_X10_breach_32 Q) := by
    unfold B_X10_breach_32
    refine sd_aload_n hC 20 dX10_breach_32 rfl (by decide) (by decide) (?_ : Sd X 33 [(0, 20), (1, 0), (2, 0)] [20] _)
    refine sd_iconst hC dX10_breach_33 ⟨by decide, by decide⟩ (?_ : Sd X 34 [(0, 20), (1, 0), (2, 0)] [0, 20] _)
    refine sd_inv0 (τ := []) (τr := [0]) (ci := 10) (q := (RX10, TX10, 45)) hC WG (M_X10_refused _) rfl rfl rfl rfl  rfl rfl wl_6_72 wl_6_74 wp_63 wl_1_10 wl_6_75 hd_X10_refused (by rw [e3]; decide) (by decide) dX10_breach_34 (?_ : Sd X 37 [(0, 20), (1, 0), (2, 0)] [0] _)
    exact sd_ireturn hC hT dX10_breach_37
  have S_87 : ∀ (k57 : tK), Sd X 57 [(0, 20), (1, 0), (2, 0), (3, 0), (4, 0)] [] k57 → Sd X 87 [(0, 20), (1, 0), (2, 0), (3, 0), (4, 0)] [] (B_X10_breach_87 Q k57) := by
    intro k57 h57
    unfold B_X10_breach_87
    refine sd_iinc (Γ' := [(0, 20), (1, 0), (2, 0), (3, 0), (4, 0)]) hC dX10_breach_87 (by decide) (by rw [e2]; decide) (by decide) (?_ : Sd X 90 [(0, 20), (1, 0), (2, 0), (3, 0), (4, 0)] [] _)
    refine sd_goto (tgt := 57) hC dX10_breach_90 rfl (?_ : Sd X 57 [(0, 20), (1, 0), (2, 0), (3, 0), (4, 0)] [] _)
    exact Sd.weak (by decide) h57
  have S_57 : Sd X 57 [(0, 20), (1, 0), (2, 0), (3, 0), (4, 0)] [] (L_X10_breach_57 Q) := by
    unfold L_X10_breach_57
    refine Sd.loop (fun k57 h57 => ?_)
    refine sd_iload hC dX10_breach_57 (by decide) (?_ : Sd X 59 [(0, 20), (1, 0), (2, 0), (3, 0), (4, 0)] [0] _)
    refine sd_aload_n hC 20 dX10_breach_59 rfl (by decide) (by decide) (?_ : Sd X 60 [(0, 20), (1, 0), (2, 0), (3, 0), (4, 0)] [20, 0] _)
    refine sd_get hC (ci := 10) (j := 17) (C := RX10) (T := TX10) (N := 45) rfl rfl (by decide) in_X10 wl_5_181 dX10_breach_60 (?_ : Sd X 63 [(0, 20), (1, 0), (2, 0), (3, 0), (4, 0)] [0, 0] _)
    refine sd_icmp_ge (tgt := 93) hC dX10_breach_63 rfl (?_ : Sd X 93 [(0, 20), (1, 0), (2, 0), (3, 0), (4, 0)] [] _) (?_ : Sd X 66 [(0, 20), (1, 0), (2, 0), (3, 0), (4, 0)] [] _)
    · refine sd_aload_n hC 20 dX10_breach_93 rfl (by decide) (by decide) (?_ : Sd X 94 [(0, 20), (1, 0), (2, 0), (3, 0), (4, 0)] [20] _)
      refine sd_iload_n hC dX10_breach_94 rfl (by decide) (?_ : Sd X 95 [(0, 20), (1, 0), (2, 0), (3, 0), (4, 0)] [0, 20] _)
      refine sd_inv0 (τ := []) (τr := [0]) (ci := 10) (q := (RX10, TX10, 45)) hC WG (M_X10_good _) rfl rfl rfl rfl  rfl rfl wl_7_171 wl_7_173 wp_105 wl_1_10 wl_7_174 hd_X10_good (by rw [e3]; decide) (by decide) dX10_breach_95 (?_ : Sd X 98 [(0, 20), (1, 0), (2, 0), (3, 0), (4, 0)] [0] _)
      exact sd_ireturn hC hT dX10_breach_98
    · refine sd_aload_n hC 20 dX10_breach_66 rfl (by decide) (by decide) (?_ : Sd X 67 [(0, 20), (1, 0), (2, 0), (3, 0), (4, 0)] [20] _)
      refine sd_iload hC dX10_breach_67 (by decide) (?_ : Sd X 69 [(0, 20), (1, 0), (2, 0), (3, 0), (4, 0)] [0, 20] _)
      refine sd_iload_n hC dX10_breach_69 rfl (by decide) (?_ : Sd X 70 [(0, 20), (1, 0), (2, 0), (3, 0), (4, 0)] [0, 0, 20] _)
      refine sd_iload_n hC dX10_breach_70 rfl (by decide) (?_ : Sd X 71 [(0, 20), (1, 0), (2, 0), (3, 0), (4, 0)] [0, 0, 0, 20] _)
      refine sd_inv0 (τ := []) (τr := [0, 0, 0]) (ci := 10) (q := (RX10, TX10, 45)) hC WG (M_X10_savesBy _) rfl rfl rfl rfl  rfl rfl wl_8_122 wl_8_124 wp_126 wl_1_10 wl_8_125 hd_X10_savesBy (by rw [e3]; decide) (by decide) dX10_breach_71 (?_ : Sd X 74 [(0, 20), (1, 0), (2, 0), (3, 0), (4, 0)] [0] _)
      refine sd_aload_n hC 20 dX10_breach_74 rfl (by decide) (by decide) (?_ : Sd X 75 [(0, 20), (1, 0), (2, 0), (3, 0), (4, 0)] [20, 0] _)
      refine sd_iload_n hC dX10_breach_75 rfl (by decide) (?_ : Sd X 76 [(0, 20), (1, 0), (2, 0), (3, 0), (4, 0)] [0, 20, 0] _)
      refine sd_iload_n hC dX10_breach_76 rfl (by decide) (?_ : Sd X 77 [(0, 20), (1, 0), (2, 0), (3, 0), (4, 0)] [0, 0, 20, 0] _)
      refine sd_iload_n hC dX10_breach_77 rfl (by decide) (?_ : Sd X 78 [(0, 20), (1, 0), (2, 0), (3, 0), (4, 0)] [0, 0, 0, 20, 0] _)
      refine sd_inv0 (τ := [0]) (τr := [0, 0, 0]) (ci := 10) (q := (RX10, TX10, 45)) hC WG (M_X10_savesBy _) rfl rfl rfl rfl  rfl rfl wl_8_122 wl_8_124 wp_126 wl_1_10 wl_8_125 hd_X10_savesBy (by rw [e3]; decide) (by decide) dX10_breach_78 (?_ : Sd X 81 [(0, 20), (1, 0), (2, 0), (3, 0), (4, 0)] [0, 0] _)
      refine sd_icmp_le (tgt := 87) hC dX10_breach_81 rfl (?_ : Sd X 87 [(0, 20), (1, 0), (2, 0), (3, 0), (4, 0)] [] _) (?_ : Sd X 84 [(0, 20), (1, 0), (2, 0), (3, 0), (4, 0)] [] _)
      · exact Sd.weak (by decide) (S_87 k57 h57)
      · refine sd_iload hC dX10_breach_84 (by decide) (?_ : Sd X 86 [(0, 20), (1, 0), (2, 0), (3, 0), (4, 0)] [0] _)
        refine sd_istore_n (Γ' := [(0, 20), (1, 0), (2, 0), (3, 0), (4, 0)]) hC dX10_breach_86 rfl (by rw [e2]; decide) (by decide) (?_ : Sd X 87 [(0, 20), (1, 0), (2, 0), (3, 0), (4, 0)] [] _)
        exact Sd.weak (by decide) (S_87 k57 h57)
  refine (?_ : Sd X 0 [(0, 20), (1, 0), (2, 0)] [] (E_X10_breach Q))
  unfold E_X10_breach
  refine sd_aload_n hC 20 dX10_breach_0 rfl (by decide) (by decide) (?_ : Sd X 1 [(0, 20), (1, 0), (2, 0)] [20] _)
  refine sd_iconst hC dX10_breach_1 ⟨by decide, by decide⟩ (?_ : Sd X 2 [(0, 20), (1, 0), (2, 0)] [0, 20] _)
  refine sd_put hC (ci := 10) (j := 0) (C := RX10) (T := TX10) (N := 45) tyX10 tyX10_ok nmX10 rfl rfl (by decide) in_X10 rfl rfl wl_5_164 dX10_breach_2 (?_ : Sd X 5 [(0, 20), (1, 0), (2, 0)] [] _)
  refine sd_aload_n hC 20 dX10_breach_5 rfl (by decide) (by decide) (?_ : Sd X 6 [(0, 20), (1, 0), (2, 0)] [20] _)
  refine sd_get hC (ci := 10) (j := 3) (C := RX10) (T := TX10) (N := 45) rfl rfl (by decide) in_X10 wl_5_167 dX10_breach_6 (?_ : Sd X 9 [(0, 20), (1, 0), (2, 0)] [19] _)
  refine sd_ifnonnull (tgt := 18) hC (by decide) dX10_breach_9 rfl (?_ : Sd X 18 [(0, 20), (1, 0), (2, 0)] [] _) (?_ : Sd X 12 [(0, 20), (1, 0), (2, 0)] [] _)
  · refine sd_iload_n hC dX10_breach_18 rfl (by decide) (?_ : Sd X 19 [(0, 20), (1, 0), (2, 0)] [0] _)
    refine sd_invs (τ := []) (τs := [0]) hC false "" WG (M_X10_isSize _) rfl rfl rfl rfl wl_8_119 wl_8_120 wl_1_10 wl_8_121 hd_X10_isSize (by rw [e3]; decide) (by decide) dX10_breach_19 (?_ : Sd X 22 [(0, 20), (1, 0), (2, 0)] [0] _)
    refine sd_if_eq (tgt := 32) hC dX10_breach_22 rfl (?_ : Sd X 32 [(0, 20), (1, 0), (2, 0)] [] _) (?_ : Sd X 25 [(0, 20), (1, 0), (2, 0)] [] _)
    · exact Sd.weak (by decide) (S_32)
    · refine sd_iload_n hC dX10_breach_25 rfl (by decide) (?_ : Sd X 26 [(0, 20), (1, 0), (2, 0)] [0] _)
      refine sd_invs (τ := []) (τs := [0]) hC false "" WG (M_X10_isSize _) rfl rfl rfl rfl wl_8_119 wl_8_120 wl_1_10 wl_8_121 hd_X10_isSize (by rw [e3]; decide) (by decide) dX10_breach_26 (?_ : Sd X 29 [(0, 20), (1, 0), (2, 0)] [0] _)
      refine sd_if_ne (tgt := 38) hC dX10_breach_29 rfl (?_ : Sd X 38 [(0, 20), (1, 0), (2, 0)] [] _) (?_ : Sd X 32 [(0, 20), (1, 0), (2, 0)] [] _)
      · refine sd_aload_n hC 20 dX10_breach_38 rfl (by decide) (by decide) (?_ : Sd X 39 [(0, 20), (1, 0), (2, 0)] [20] _)
        refine sd_get hC (ci := 10) (j := 17) (C := RX10) (T := TX10) (N := 45) rfl rfl (by decide) in_X10 wl_5_181 dX10_breach_39 (?_ : Sd X 42 [(0, 20), (1, 0), (2, 0)] [0] _)
        refine sd_if_ne (tgt := 52) hC dX10_breach_42 rfl (?_ : Sd X 52 [(0, 20), (1, 0), (2, 0)] [] _) (?_ : Sd X 45 [(0, 20), (1, 0), (2, 0)] [] _)
        · refine sd_iconst hC dX10_breach_52 ⟨by decide, by decide⟩ (?_ : Sd X 53 [(0, 20), (1, 0), (2, 0)] [0] _)
          refine sd_istore_n (Γ' := [(0, 20), (1, 0), (2, 0), (3, 0)]) hC dX10_breach_53 rfl (by rw [e2]; decide) (by decide) (?_ : Sd X 54 [(0, 20), (1, 0), (2, 0), (3, 0)] [] _)
          refine sd_iconst hC dX10_breach_54 ⟨by decide, by decide⟩ (?_ : Sd X 55 [(0, 20), (1, 0), (2, 0), (3, 0)] [0] _)
          refine sd_istore (Γ' := [(0, 20), (1, 0), (2, 0), (3, 0), (4, 0)]) hC dX10_breach_55 (by rw [e2]; decide) (by decide) (?_ : Sd X 57 [(0, 20), (1, 0), (2, 0), (3, 0), (4, 0)] [] _)
          exact Sd.weak (by decide) (S_57)
        · refine sd_aload_n hC 20 dX10_breach_45 rfl (by decide) (by decide) (?_ : Sd X 46 [(0, 20), (1, 0), (2, 0)] [20] _)
          refine sd_bipush hC dX10_breach_46 (by decide) (?_ : Sd X 48 [(0, 20), (1, 0), (2, 0)] [0, 20] _)
          refine sd_inv0 (τ := []) (τr := [0]) (ci := 10) (q := (RX10, TX10, 45)) hC WG (M_X10_refused _) rfl rfl rfl rfl  rfl rfl wl_6_72 wl_6_74 wp_63 wl_1_10 wl_6_75 hd_X10_refused (by rw [e3]; decide) (by decide) dX10_breach_48 (?_ : Sd X 51 [(0, 20), (1, 0), (2, 0)] [0] _)
          exact sd_ireturn hC hT dX10_breach_51
      · exact Sd.weak (by decide) (S_32)
  · refine sd_aload_n hC 20 dX10_breach_12 rfl (by decide) (by decide) (?_ : Sd X 13 [(0, 20), (1, 0), (2, 0)] [20] _)
    refine sd_iconst hC dX10_breach_13 ⟨by decide, by decide⟩ (?_ : Sd X 14 [(0, 20), (1, 0), (2, 0)] [0, 20] _)
    refine sd_inv0 (τ := []) (τr := [0]) (ci := 10) (q := (RX10, TX10, 45)) hC WG (M_X10_refused _) rfl rfl rfl rfl  rfl rfl wl_6_72 wl_6_74 wp_63 wl_1_10 wl_6_75 hd_X10_refused (by rw [e3]; decide) (by decide) dX10_breach_14 (?_ : Sd X 17 [(0, 20), (1, 0), (2, 0)] [0] _)
    exact sd_ireturn hC hT dX10_breach_17
theorem hd_X10_gateNext : yX10_gateNext.cls ≠ "java/lang/invoke/MethodHandle" ∧ yX10_gateNext.cls ≠ "java/lang/invoke/VarHandle" ∧ (parseMethodDescriptor yX10_gateNext.desc).map (fun d => d.parameters.length) = some 1 := by decide +kernel
set_option maxRecDepth 100000 in
set_option maxHeartbeats 4000000 in
theorem M_X10_gateNext (l : Launch) : Mt l yX10_gateNext (Cond.code yX10_gateNext cX10_gateNext 2 (some .int) :: WALL) { frames := 0, cells := 0, slots := 0, locals := 0 } [20, 0] (some 0) T_X10_gateNext := by
  refine Mt.mk (B := E_X10_gateNext) (by decide +kernel) (by decide) (fun _ _ _ hh => hh) ?_
  intro X Q e1 e2 e3 hC hN hT
  subst e1
  have hC : CF X cX10_gateNext RX10 WALL := hC
  refine (?_ : Sd X 0 [(0, 20), (1, 0)] [] (E_X10_gateNext Q))
  unfold E_X10_gateNext
  refine sd_aload_n hC 20 dX10_gateNext_0 rfl (by decide) (by decide) (?_ : Sd X 1 [(0, 20), (1, 0)] [20] _)
  refine sd_get hC (ci := 10) (j := 36) (C := RX10) (T := TX10) (N := 45) rfl rfl (by decide) in_X10 wl_5_200 dX10_gateNext_1 (?_ : Sd X 4 [(0, 20), (1, 0)] [100] _)
  refine sd_bipush hC dX10_gateNext_4 (by decide) (?_ : Sd X 6 [(0, 20), (1, 0)] [0, 100] _)
  refine sd_aload_n hC 20 dX10_gateNext_6 rfl (by decide) (by decide) (?_ : Sd X 7 [(0, 20), (1, 0)] [20, 0, 100] _)
  refine sd_get hC (ci := 10) (j := 34) (C := RX10) (T := TX10) (N := 45) rfl rfl (by decide) in_X10 wl_5_198 dX10_gateNext_7 (?_ : Sd X 10 [(0, 20), (1, 0)] [100, 0, 100] _)
  refine sd_iload_n hC dX10_gateNext_10 rfl (by decide) (?_ : Sd X 11 [(0, 20), (1, 0)] [0, 100, 0, 100] _)
  refine sd_iaload hC dX10_gateNext_11 (?_ : Sd X 12 [(0, 20), (1, 0)] [0, 0, 100] _)
  refine sd_imul hC dX10_gateNext_12 (?_ : Sd X 13 [(0, 20), (1, 0)] [0, 100] _)
  refine sd_aload_n hC 20 dX10_gateNext_13 rfl (by decide) (by decide) (?_ : Sd X 14 [(0, 20), (1, 0)] [20, 0, 100] _)
  refine sd_get hC (ci := 10) (j := 32) (C := RX10) (T := TX10) (N := 45) rfl rfl (by decide) in_X10 wl_5_196 dX10_gateNext_14 (?_ : Sd X 17 [(0, 20), (1, 0)] [100, 0, 100] _)
  refine sd_bipush hC dX10_gateNext_17 (by decide) (?_ : Sd X 19 [(0, 20), (1, 0)] [0, 100, 0, 100] _)
  refine sd_iload_n hC dX10_gateNext_19 rfl (by decide) (?_ : Sd X 20 [(0, 20), (1, 0)] [0, 0, 100, 0, 100] _)
  refine sd_imul hC dX10_gateNext_20 (?_ : Sd X 21 [(0, 20), (1, 0)] [0, 100, 0, 100] _)
  refine sd_bipush hC dX10_gateNext_21 (by decide) (?_ : Sd X 23 [(0, 20), (1, 0)] [0, 0, 100, 0, 100] _)
  refine sd_iadd hC dX10_gateNext_23 (?_ : Sd X 24 [(0, 20), (1, 0)] [0, 100, 0, 100] _)
  refine sd_iaload hC dX10_gateNext_24 (?_ : Sd X 25 [(0, 20), (1, 0)] [0, 0, 100] _)
  refine sd_iadd hC dX10_gateNext_25 (?_ : Sd X 26 [(0, 20), (1, 0)] [0, 100] _)
  refine sd_iaload hC dX10_gateNext_26 (?_ : Sd X 27 [(0, 20), (1, 0)] [0] _)
  exact sd_ireturn hC hT dX10_gateNext_27
theorem wl_8_43 : Cond.methodLink RX10 477 yX10_gateNext ∈ WALL := tb8 (List.mem_of_getElem? (i := 43) rfl) rfl
theorem wl_8_45 : Cond.instanceMethod yX10_gateNext ∈ WALL := tb8 (List.mem_of_getElem? (i := 45) rfl) rfl
theorem wp_118 : Cond.selects RX10 yX10_gateNext yX10_gateNext ∈ WALL := tbS (List.mem_of_getElem? (i := 118) rfl)
theorem wl_8_46 : Cond.code yX10_gateNext cX10_gateNext 2 (some .int) ∈ WALL := tb8 (List.mem_of_getElem? (i := 46) rfl) rfl
theorem hd_X10_busyAt : yX10_busyAt.cls ≠ "java/lang/invoke/MethodHandle" ∧ yX10_busyAt.cls ≠ "java/lang/invoke/VarHandle" ∧ (parseMethodDescriptor yX10_busyAt.desc).map (fun d => d.parameters.length) = some 1 := by decide +kernel
set_option maxRecDepth 100000 in
set_option maxHeartbeats 4000000 in
theorem M_X10_busyAt (l : Launch) : Mt l yX10_busyAt (Cond.code yX10_busyAt cX10_busyAt 3 (some .int) :: WALL) { frames := 1, cells := 0, slots := 0, locals := 21 } [20, 0] (some 0) T_X10_busyAt := by
  refine Mt.mk (B := E_X10_busyAt) (by decide +kernel) (by decide) (fun _ _ _ hh => hh) ?_
  intro X Q e1 e2 e3 hC hN hT
  subst e1
  have hC : CF X cX10_busyAt RX10 WALL := hC
  have S_36 : ∀ (k2 : tK), Sd X 2 [(0, 20), (1, 0), (2, 0)] [] k2 → Sd X 36 [(0, 20), (1, 0), (2, 0)] [] (B_X10_busyAt_36 Q k2) := by
    intro k2 h2
    unfold B_X10_busyAt_36
    refine sd_iinc (Γ' := [(0, 20), (1, 0), (2, 0)]) hC dX10_busyAt_36 (by decide) (by rw [e2]; decide) (by decide) (?_ : Sd X 39 [(0, 20), (1, 0), (2, 0)] [] _)
    refine sd_goto (tgt := 2) hC dX10_busyAt_39 rfl (?_ : Sd X 2 [(0, 20), (1, 0), (2, 0)] [] _)
    exact Sd.weak (by decide) h2
  have S_2 : Sd X 2 [(0, 20), (1, 0), (2, 0)] [] (L_X10_busyAt_2 Q) := by
    unfold L_X10_busyAt_2
    refine Sd.loop (fun k2 h2 => ?_)
    refine sd_iload_n hC dX10_busyAt_2 rfl (by decide) (?_ : Sd X 3 [(0, 20), (1, 0), (2, 0)] [0] _)
    refine sd_aload_n hC 20 dX10_busyAt_3 rfl (by decide) (by decide) (?_ : Sd X 4 [(0, 20), (1, 0), (2, 0)] [20, 0] _)
    refine sd_get hC (ci := 10) (j := 38) (C := RX10) (T := TX10) (N := 45) rfl rfl (by decide) in_X10 wl_5_202 dX10_busyAt_4 (?_ : Sd X 7 [(0, 20), (1, 0), (2, 0)] [0, 0] _)
    refine sd_icmp_ge (tgt := 42) hC dX10_busyAt_7 rfl (?_ : Sd X 42 [(0, 20), (1, 0), (2, 0)] [] _) (?_ : Sd X 10 [(0, 20), (1, 0), (2, 0)] [] _)
    · refine sd_bipush hC dX10_busyAt_42 (by decide) (?_ : Sd X 44 [(0, 20), (1, 0), (2, 0)] [0] _)
      exact sd_ireturn hC hT dX10_busyAt_44
    · refine sd_aload_n hC 20 dX10_busyAt_10 rfl (by decide) (by decide) (?_ : Sd X 11 [(0, 20), (1, 0), (2, 0)] [20] _)
      refine sd_get hC (ci := 10) (j := 32) (C := RX10) (T := TX10) (N := 45) rfl rfl (by decide) in_X10 wl_5_196 dX10_busyAt_11 (?_ : Sd X 14 [(0, 20), (1, 0), (2, 0)] [100] _)
      refine sd_bipush hC dX10_busyAt_14 (by decide) (?_ : Sd X 16 [(0, 20), (1, 0), (2, 0)] [0, 100] _)
      refine sd_iload_n hC dX10_busyAt_16 rfl (by decide) (?_ : Sd X 17 [(0, 20), (1, 0), (2, 0)] [0, 0, 100] _)
      refine sd_imul hC dX10_busyAt_17 (?_ : Sd X 18 [(0, 20), (1, 0), (2, 0)] [0, 100] _)
      refine sd_iconst hC dX10_busyAt_18 ⟨by decide, by decide⟩ (?_ : Sd X 19 [(0, 20), (1, 0), (2, 0)] [0, 0, 100] _)
      refine sd_iadd hC dX10_busyAt_19 (?_ : Sd X 20 [(0, 20), (1, 0), (2, 0)] [0, 100] _)
      refine sd_iaload hC dX10_busyAt_20 (?_ : Sd X 21 [(0, 20), (1, 0), (2, 0)] [0] _)
      refine sd_iconst hC dX10_busyAt_21 ⟨by decide, by decide⟩ (?_ : Sd X 22 [(0, 20), (1, 0), (2, 0)] [0, 0] _)
      refine sd_icmp_ne (tgt := 36) hC dX10_busyAt_22 rfl (?_ : Sd X 36 [(0, 20), (1, 0), (2, 0)] [] _) (?_ : Sd X 25 [(0, 20), (1, 0), (2, 0)] [] _)
      · exact Sd.weak (by decide) (S_36 k2 h2)
      · refine sd_aload_n hC 20 dX10_busyAt_25 rfl (by decide) (by decide) (?_ : Sd X 26 [(0, 20), (1, 0), (2, 0)] [20] _)
        refine sd_iload_n hC dX10_busyAt_26 rfl (by decide) (?_ : Sd X 27 [(0, 20), (1, 0), (2, 0)] [0, 20] _)
        refine sd_inv0 (τ := []) (τr := [0]) (ci := 10) (q := (RX10, TX10, 45)) hC WG (M_X10_gateNext _) rfl rfl rfl rfl  rfl rfl wl_8_43 wl_8_45 wp_118 wl_1_10 wl_8_46 hd_X10_gateNext (by rw [e3]; decide) (by decide) dX10_busyAt_27 (?_ : Sd X 30 [(0, 20), (1, 0), (2, 0)] [0] _)
        refine sd_iload_n hC dX10_busyAt_30 rfl (by decide) (?_ : Sd X 31 [(0, 20), (1, 0), (2, 0)] [0, 0] _)
        refine sd_icmp_ne (tgt := 36) hC dX10_busyAt_31 rfl (?_ : Sd X 36 [(0, 20), (1, 0), (2, 0)] [] _) (?_ : Sd X 34 [(0, 20), (1, 0), (2, 0)] [] _)
        · exact Sd.weak (by decide) (S_36 k2 h2)
        · refine sd_iload_n hC dX10_busyAt_34 rfl (by decide) (?_ : Sd X 35 [(0, 20), (1, 0), (2, 0)] [0] _)
          exact sd_ireturn hC hT dX10_busyAt_35
  refine (?_ : Sd X 0 [(0, 20), (1, 0)] [] (E_X10_busyAt Q))
  unfold E_X10_busyAt
  refine sd_iconst hC dX10_busyAt_0 ⟨by decide, by decide⟩ (?_ : Sd X 1 [(0, 20), (1, 0)] [0] _)
  refine sd_istore_n (Γ' := [(0, 20), (1, 0), (2, 0)]) hC dX10_busyAt_1 rfl (by rw [e2]; decide) (by decide) (?_ : Sd X 2 [(0, 20), (1, 0), (2, 0)] [] _)
  exact Sd.weak (by decide) (S_2)
theorem wl_8_55 : Cond.methodLink RX10 486 yX10_busyAt ∈ WALL := tb8 (List.mem_of_getElem? (i := 55) rfl) rfl
theorem wl_8_57 : Cond.instanceMethod yX10_busyAt ∈ WALL := tb8 (List.mem_of_getElem? (i := 57) rfl) rfl
theorem wp_121 : Cond.selects RX10 yX10_busyAt yX10_busyAt ∈ WALL := tbS (List.mem_of_getElem? (i := 121) rfl)
theorem wl_8_58 : Cond.code yX10_busyAt cX10_busyAt 3 (some .int) ∈ WALL := tb8 (List.mem_of_getElem? (i := 58) rfl) rfl
theorem hd_X10_busy : yX10_busy.cls ≠ "java/lang/invoke/MethodHandle" ∧ yX10_busy.cls ≠ "java/lang/invoke/VarHandle" ∧ (parseMethodDescriptor yX10_busy.desc).map (fun d => d.parameters.length) = some 1 := by decide +kernel
set_option maxRecDepth 100000 in
set_option maxHeartbeats 4000000 in
theorem M_X10_busy (l : Launch) : Mt l yX10_busy (Cond.code yX10_busy cX10_busy 2 (some .int) :: WALL) { frames := 2, cells := 0, slots := 0, locals := 43 } [20, 0] (some 0) T_X10_busy := by
  refine Mt.mk (B := E_X10_busy) (by decide +kernel) (by decide) (fun _ _ _ hh => hh) ?_
  intro X Q e1 e2 e3 hC hN hT
  subst e1
  have hC : CF X cX10_busy RX10 WALL := hC
  have S_30 : Sd X 30 [(0, 20), (1, 0)] [0] (B_X10_busy_30 Q) := by
    unfold B_X10_busy_30
    exact sd_ireturn hC hT dX10_busy_30
  refine (?_ : Sd X 0 [(0, 20), (1, 0)] [] (E_X10_busy Q))
  unfold E_X10_busy
  refine sd_aload_n hC 20 dX10_busy_0 rfl (by decide) (by decide) (?_ : Sd X 1 [(0, 20), (1, 0)] [20] _)
  refine sd_iconst hC dX10_busy_1 ⟨by decide, by decide⟩ (?_ : Sd X 2 [(0, 20), (1, 0)] [0, 20] _)
  refine sd_put hC (ci := 10) (j := 0) (C := RX10) (T := TX10) (N := 45) tyX10 tyX10_ok nmX10 rfl rfl (by decide) in_X10 rfl rfl wl_5_164 dX10_busy_2 (?_ : Sd X 5 [(0, 20), (1, 0)] [] _)
  refine sd_aload_n hC 20 dX10_busy_5 rfl (by decide) (by decide) (?_ : Sd X 6 [(0, 20), (1, 0)] [20] _)
  refine sd_iload_n hC dX10_busy_6 rfl (by decide) (?_ : Sd X 7 [(0, 20), (1, 0)] [0, 20] _)
  refine sd_inv0 (τ := []) (τr := [0]) (ci := 10) (q := (RX10, TX10, 45)) hC WG (M_X10_isGate _) rfl rfl rfl rfl  rfl rfl wl_7_187 wl_7_189 wp_106 wl_1_10 wl_7_190 hd_X10_isGate (by rw [e3]; decide) (by decide) dX10_busy_7 (?_ : Sd X 10 [(0, 20), (1, 0)] [0] _)
  refine sd_if_eq (tgt := 25) hC dX10_busy_10 rfl (?_ : Sd X 25 [(0, 20), (1, 0)] [] _) (?_ : Sd X 13 [(0, 20), (1, 0)] [] _)
  · refine sd_aload_n hC 20 dX10_busy_25 rfl (by decide) (by decide) (?_ : Sd X 26 [(0, 20), (1, 0)] [20] _)
    refine sd_iconst hC dX10_busy_26 ⟨by decide, by decide⟩ (?_ : Sd X 27 [(0, 20), (1, 0)] [0, 20] _)
    refine sd_inv0 (τ := []) (τr := [0]) (ci := 10) (q := (RX10, TX10, 45)) hC WG (M_X10_refused _) rfl rfl rfl rfl  rfl rfl wl_6_72 wl_6_74 wp_63 wl_1_10 wl_6_75 hd_X10_refused (by rw [e3]; decide) (by decide) dX10_busy_27 (?_ : Sd X 30 [(0, 20), (1, 0)] [0] _)
    exact Sd.weak (by decide) (S_30)
  · refine sd_aload_n hC 20 dX10_busy_13 rfl (by decide) (by decide) (?_ : Sd X 14 [(0, 20), (1, 0)] [20] _)
    refine sd_aload_n hC 20 dX10_busy_14 rfl (by decide) (by decide) (?_ : Sd X 15 [(0, 20), (1, 0)] [20, 20] _)
    refine sd_iload_n hC dX10_busy_15 rfl (by decide) (?_ : Sd X 16 [(0, 20), (1, 0)] [0, 20, 20] _)
    refine sd_inv0 (τ := [20]) (τr := [0]) (ci := 10) (q := (RX10, TX10, 45)) hC WG (M_X10_busyAt _) rfl rfl rfl rfl  rfl rfl wl_8_55 wl_8_57 wp_121 wl_1_10 wl_8_58 hd_X10_busyAt (by rw [e3]; decide) (by decide) dX10_busy_16 (?_ : Sd X 19 [(0, 20), (1, 0)] [0, 20] _)
    refine sd_inv0 (τ := []) (τr := [0]) (ci := 10) (q := (RX10, TX10, 45)) hC WG (M_X10_good _) rfl rfl rfl rfl  rfl rfl wl_7_171 wl_7_173 wp_105 wl_1_10 wl_7_174 hd_X10_good (by rw [e3]; decide) (by decide) dX10_busy_19 (?_ : Sd X 22 [(0, 20), (1, 0)] [0] _)
    refine sd_goto (tgt := 30) hC dX10_busy_22 rfl (?_ : Sd X 30 [(0, 20), (1, 0)] [0] _)
    exact Sd.weak (by decide) (S_30)
theorem hd_X10_on : yX10_on.cls ≠ "java/lang/invoke/MethodHandle" ∧ yX10_on.cls ≠ "java/lang/invoke/VarHandle" ∧ (parseMethodDescriptor yX10_on.desc).map (fun d => d.parameters.length) = some 1 := by decide +kernel
set_option maxRecDepth 100000 in
set_option maxHeartbeats 4000000 in
theorem M_X10_on (l : Launch) : Mt l yX10_on (Cond.code yX10_on cX10_on 3 (some .int) :: WALL) { frames := 0, cells := 0, slots := 0, locals := 0 } [20, 0] (some 0) T_X10_on := by
  refine Mt.mk (B := E_X10_on) (by decide +kernel) (by decide) (fun _ _ _ hh => hh) ?_
  intro X Q e1 e2 e3 hC hN hT
  subst e1
  have hC : CF X cX10_on RX10 WALL := hC
  have S_2 : Sd X 2 [(0, 20), (1, 0), (2, 0)] [] (L_X10_on_2 Q) := by
    unfold L_X10_on_2
    refine Sd.loop (fun k2 h2 => ?_)
    refine sd_iload_n hC dX10_on_2 rfl (by decide) (?_ : Sd X 3 [(0, 20), (1, 0), (2, 0)] [0] _)
    refine sd_aload_n hC 20 dX10_on_3 rfl (by decide) (by decide) (?_ : Sd X 4 [(0, 20), (1, 0), (2, 0)] [20, 0] _)
    refine sd_get hC (ci := 10) (j := 38) (C := RX10) (T := TX10) (N := 45) rfl rfl (by decide) in_X10 wl_5_202 dX10_on_4 (?_ : Sd X 7 [(0, 20), (1, 0), (2, 0)] [0, 0] _)
    refine sd_icmp_ge (tgt := 33) hC dX10_on_7 rfl (?_ : Sd X 33 [(0, 20), (1, 0), (2, 0)] [] _) (?_ : Sd X 10 [(0, 20), (1, 0), (2, 0)] [] _)
    · refine sd_bipush hC dX10_on_33 (by decide) (?_ : Sd X 35 [(0, 20), (1, 0), (2, 0)] [0] _)
      exact sd_ireturn hC hT dX10_on_35
    · refine sd_aload_n hC 20 dX10_on_10 rfl (by decide) (by decide) (?_ : Sd X 11 [(0, 20), (1, 0), (2, 0)] [20] _)
      refine sd_get hC (ci := 10) (j := 32) (C := RX10) (T := TX10) (N := 45) rfl rfl (by decide) in_X10 wl_5_196 dX10_on_11 (?_ : Sd X 14 [(0, 20), (1, 0), (2, 0)] [100] _)
      refine sd_bipush hC dX10_on_14 (by decide) (?_ : Sd X 16 [(0, 20), (1, 0), (2, 0)] [0, 100] _)
      refine sd_iload_n hC dX10_on_16 rfl (by decide) (?_ : Sd X 17 [(0, 20), (1, 0), (2, 0)] [0, 0, 100] _)
      refine sd_imul hC dX10_on_17 (?_ : Sd X 18 [(0, 20), (1, 0), (2, 0)] [0, 100] _)
      refine sd_iconst hC dX10_on_18 ⟨by decide, by decide⟩ (?_ : Sd X 19 [(0, 20), (1, 0), (2, 0)] [0, 0, 100] _)
      refine sd_iadd hC dX10_on_19 (?_ : Sd X 20 [(0, 20), (1, 0), (2, 0)] [0, 100] _)
      refine sd_iaload hC dX10_on_20 (?_ : Sd X 21 [(0, 20), (1, 0), (2, 0)] [0] _)
      refine sd_iload_n hC dX10_on_21 rfl (by decide) (?_ : Sd X 22 [(0, 20), (1, 0), (2, 0)] [0, 0] _)
      refine sd_icmp_ne (tgt := 27) hC dX10_on_22 rfl (?_ : Sd X 27 [(0, 20), (1, 0), (2, 0)] [] _) (?_ : Sd X 25 [(0, 20), (1, 0), (2, 0)] [] _)
      · refine sd_iinc (Γ' := [(0, 20), (1, 0), (2, 0)]) hC dX10_on_27 (by decide) (by rw [e2]; decide) (by decide) (?_ : Sd X 30 [(0, 20), (1, 0), (2, 0)] [] _)
        refine sd_goto (tgt := 2) hC dX10_on_30 rfl (?_ : Sd X 2 [(0, 20), (1, 0), (2, 0)] [] _)
        exact Sd.weak (by decide) h2
      · refine sd_iload_n hC dX10_on_25 rfl (by decide) (?_ : Sd X 26 [(0, 20), (1, 0), (2, 0)] [0] _)
        exact sd_ireturn hC hT dX10_on_26
  refine (?_ : Sd X 0 [(0, 20), (1, 0)] [] (E_X10_on Q))
  unfold E_X10_on
  refine sd_iconst hC dX10_on_0 ⟨by decide, by decide⟩ (?_ : Sd X 1 [(0, 20), (1, 0)] [0] _)
  refine sd_istore_n (Γ' := [(0, 20), (1, 0), (2, 0)]) hC dX10_on_1 rfl (by rw [e2]; decide) (by decide) (?_ : Sd X 2 [(0, 20), (1, 0), (2, 0)] [] _)
  exact Sd.weak (by decide) (S_2)
theorem wl_8_63 : Cond.methodLink RX10 489 yX10_on ∈ WALL := tb8 (List.mem_of_getElem? (i := 63) rfl) rfl
theorem wl_8_65 : Cond.instanceMethod yX10_on ∈ WALL := tb8 (List.mem_of_getElem? (i := 65) rfl) rfl
theorem wp_123 : Cond.selects RX10 yX10_on yX10_on ∈ WALL := tbS (List.mem_of_getElem? (i := 123) rfl)
theorem wl_8_66 : Cond.code yX10_on cX10_on 3 (some .int) ∈ WALL := tb8 (List.mem_of_getElem? (i := 66) rfl) rfl
theorem hd_X10_cart : yX10_cart.cls ≠ "java/lang/invoke/MethodHandle" ∧ yX10_cart.cls ≠ "java/lang/invoke/VarHandle" ∧ (parseMethodDescriptor yX10_cart.desc).map (fun d => d.parameters.length) = some 1 := by decide +kernel
set_option maxRecDepth 100000 in
set_option maxHeartbeats 4000000 in
theorem M_X10_cart (l : Launch) : Mt l yX10_cart (Cond.code yX10_cart cX10_cart 2 (some .int) :: WALL) { frames := 1, cells := 0, slots := 0, locals := 22 } [20, 0] (some 0) T_X10_cart := by
  refine Mt.mk (B := E_X10_cart) (by decide +kernel) (by decide) (fun _ _ _ hh => hh) ?_
  intro X Q e1 e2 e3 hC hN hT
  subst e1
  have hC : CF X cX10_cart RX10 WALL := hC
  have S_44 : Sd X 44 [(0, 20), (1, 0)] [0] (B_X10_cart_44 Q) := by
    unfold B_X10_cart_44
    exact sd_ireturn hC hT dX10_cart_44
  have S_39 : Sd X 39 [(0, 20), (1, 0)] [] (B_X10_cart_39 Q) := by
    unfold B_X10_cart_39
    refine sd_aload_n hC 20 dX10_cart_39 rfl (by decide) (by decide) (?_ : Sd X 40 [(0, 20), (1, 0)] [20] _)
    refine sd_iconst hC dX10_cart_40 ⟨by decide, by decide⟩ (?_ : Sd X 41 [(0, 20), (1, 0)] [0, 20] _)
    refine sd_inv0 (τ := []) (τr := [0]) (ci := 10) (q := (RX10, TX10, 45)) hC WG (M_X10_refused _) rfl rfl rfl rfl  rfl rfl wl_6_72 wl_6_74 wp_63 wl_1_10 wl_6_75 hd_X10_refused (by rw [e3]; decide) (by decide) dX10_cart_41 (?_ : Sd X 44 [(0, 20), (1, 0)] [0] _)
    exact Sd.weak (by decide) (S_44)
  refine (?_ : Sd X 0 [(0, 20), (1, 0)] [] (E_X10_cart Q))
  unfold E_X10_cart
  refine sd_aload_n hC 20 dX10_cart_0 rfl (by decide) (by decide) (?_ : Sd X 1 [(0, 20), (1, 0)] [20] _)
  refine sd_iconst hC dX10_cart_1 ⟨by decide, by decide⟩ (?_ : Sd X 2 [(0, 20), (1, 0)] [0, 20] _)
  refine sd_put hC (ci := 10) (j := 0) (C := RX10) (T := TX10) (N := 45) tyX10 tyX10_ok nmX10 rfl rfl (by decide) in_X10 rfl rfl wl_5_164 dX10_cart_2 (?_ : Sd X 5 [(0, 20), (1, 0)] [] _)
  refine sd_aload_n hC 20 dX10_cart_5 rfl (by decide) (by decide) (?_ : Sd X 6 [(0, 20), (1, 0)] [20] _)
  refine sd_get hC (ci := 10) (j := 3) (C := RX10) (T := TX10) (N := 45) rfl rfl (by decide) in_X10 wl_5_167 dX10_cart_6 (?_ : Sd X 9 [(0, 20), (1, 0)] [19] _)
  refine sd_ifnull (tgt := 39) hC (by decide) dX10_cart_9 rfl (?_ : Sd X 39 [(0, 20), (1, 0)] [] _) (?_ : Sd X 12 [(0, 20), (1, 0)] [] _)
  · exact Sd.weak (by decide) (S_39)
  · refine sd_iload_n hC dX10_cart_12 rfl (by decide) (?_ : Sd X 13 [(0, 20), (1, 0)] [0] _)
    refine sd_if_lt (tgt := 39) hC dX10_cart_13 rfl (?_ : Sd X 39 [(0, 20), (1, 0)] [] _) (?_ : Sd X 16 [(0, 20), (1, 0)] [] _)
    · exact Sd.weak (by decide) (S_39)
    · refine sd_iload_n hC dX10_cart_16 rfl (by decide) (?_ : Sd X 17 [(0, 20), (1, 0)] [0] _)
      refine sd_aload_n hC 20 dX10_cart_17 rfl (by decide) (by decide) (?_ : Sd X 18 [(0, 20), (1, 0)] [20, 0] _)
      refine sd_get hC (ci := 10) (j := 3) (C := RX10) (T := TX10) (N := 45) rfl rfl (by decide) in_X10 wl_5_167 dX10_cart_18 (?_ : Sd X 21 [(0, 20), (1, 0)] [19, 0] _)
      refine sd_getN hC (ci := 9) (j := 2) (C := RX9) (T := TX9) (N := 28) (host := "NarrowRingsModel") rfl rfl (by decide) in_X9 (by decide) dX10_cart_21 (?_ : Sd X 24 [(0, 20), (1, 0)] [0, 0] _)
      refine sd_icmp_ge (tgt := 39) hC dX10_cart_24 rfl (?_ : Sd X 39 [(0, 20), (1, 0)] [] _) (?_ : Sd X 27 [(0, 20), (1, 0)] [] _)
      · exact Sd.weak (by decide) (S_39)
      · refine sd_aload_n hC 20 dX10_cart_27 rfl (by decide) (by decide) (?_ : Sd X 28 [(0, 20), (1, 0)] [20] _)
        refine sd_aload_n hC 20 dX10_cart_28 rfl (by decide) (by decide) (?_ : Sd X 29 [(0, 20), (1, 0)] [20, 20] _)
        refine sd_iload_n hC dX10_cart_29 rfl (by decide) (?_ : Sd X 30 [(0, 20), (1, 0)] [0, 20, 20] _)
        refine sd_inv0 (τ := [20]) (τr := [0]) (ci := 10) (q := (RX10, TX10, 45)) hC WG (M_X10_on _) rfl rfl rfl rfl  rfl rfl wl_8_63 wl_8_65 wp_123 wl_1_10 wl_8_66 hd_X10_on (by rw [e3]; decide) (by decide) dX10_cart_30 (?_ : Sd X 33 [(0, 20), (1, 0)] [0, 20] _)
        refine sd_inv0 (τ := []) (τr := [0]) (ci := 10) (q := (RX10, TX10, 45)) hC WG (M_X10_good _) rfl rfl rfl rfl  rfl rfl wl_7_171 wl_7_173 wp_105 wl_1_10 wl_7_174 hd_X10_good (by rw [e3]; decide) (by decide) dX10_cart_33 (?_ : Sd X 36 [(0, 20), (1, 0)] [0] _)
        refine sd_goto (tgt := 44) hC dX10_cart_36 rfl (?_ : Sd X 44 [(0, 20), (1, 0)] [0] _)
        exact Sd.weak (by decide) (S_44)
theorem wl_5_208 : Cond.fieldLink RX10 340 "NarrowRingsModel" "acts" "I" ∈ WALL := tb5 (List.mem_of_getElem? (i := 208) rfl) rfl
theorem wl_5_207 : Cond.fieldLink RX10 58 "NarrowRingsModel" "beforeMany" "[I" ∈ WALL := tb5 (List.mem_of_getElem? (i := 207) rfl) rfl
theorem wl_5_206 : Cond.fieldLink RX10 55 "NarrowRingsModel" "before" "[I" ∈ WALL := tb5 (List.mem_of_getElem? (i := 206) rfl) rfl
theorem hd_X10_keeps : yX10_keeps.cls ≠ "java/lang/invoke/MethodHandle" ∧ yX10_keeps.cls ≠ "java/lang/invoke/VarHandle" ∧ (parseMethodDescriptor yX10_keeps.desc).map (fun d => d.parameters.length) = some 0 := by decide +kernel
set_option maxRecDepth 100000 in
set_option maxHeartbeats 4000000 in
theorem M_X10_keeps (l : Launch) : Mt l yX10_keeps (Cond.code yX10_keeps cX10_keeps 3 none :: WALL) { frames := 0, cells := 0, slots := 0, locals := 0 } [20] none T_X10_keeps := by
  refine Mt.mk (B := E_X10_keeps) (by decide +kernel) (by decide) (fun _ _ _ hh => hh) ?_
  intro X Q e1 e2 e3 hC hN hT
  subst e1
  have hC : CF X cX10_keeps RX10 WALL := hC
  have S_82 : Sd X 82 [(0, 20), (1, 0), (2, 0)] [] (L_X10_keeps_82 Q) := by
    unfold L_X10_keeps_82
    refine Sd.loop (fun k82 h82 => ?_)
    refine sd_iload_n hC dX10_keeps_82 rfl (by decide) (?_ : Sd X 83 [(0, 20), (1, 0), (2, 0)] [0] _)
    refine sd_iload_n hC dX10_keeps_83 rfl (by decide) (?_ : Sd X 84 [(0, 20), (1, 0), (2, 0)] [0, 0] _)
    refine sd_icmp_ge (tgt := 112) hC dX10_keeps_84 rfl (?_ : Sd X 112 [(0, 20), (1, 0), (2, 0)] [] _) (?_ : Sd X 87 [(0, 20), (1, 0), (2, 0)] [] _)
    · refine sd_aload_n hC 20 dX10_keeps_112 rfl (by decide) (by decide) (?_ : Sd X 113 [(0, 20), (1, 0), (2, 0)] [20] _)
      refine sd_get hC (ci := 10) (j := 43) (C := RX10) (T := TX10) (N := 45) rfl rfl (by decide) in_X10 wl_5_207 dX10_keeps_113 (?_ : Sd X 116 [(0, 20), (1, 0), (2, 0)] [100] _)
      refine sd_aload_n hC 20 dX10_keeps_116 rfl (by decide) (by decide) (?_ : Sd X 117 [(0, 20), (1, 0), (2, 0)] [20, 100] _)
      refine sd_get hC (ci := 10) (j := 44) (C := RX10) (T := TX10) (N := 45) rfl rfl (by decide) in_X10 wl_5_208 dX10_keeps_117 (?_ : Sd X 120 [(0, 20), (1, 0), (2, 0)] [0, 100] _)
      refine sd_aload_n hC 20 dX10_keeps_120 rfl (by decide) (by decide) (?_ : Sd X 121 [(0, 20), (1, 0), (2, 0)] [20, 0, 100] _)
      refine sd_get hC (ci := 10) (j := 17) (C := RX10) (T := TX10) (N := 45) rfl rfl (by decide) in_X10 wl_5_181 dX10_keeps_121 (?_ : Sd X 124 [(0, 20), (1, 0), (2, 0)] [0, 0, 100] _)
      refine sd_iastore hC dX10_keeps_124 (?_ : Sd X 125 [(0, 20), (1, 0), (2, 0)] [] _)
      refine sd_aload_n hC 20 dX10_keeps_125 rfl (by decide) (by decide) (?_ : Sd X 126 [(0, 20), (1, 0), (2, 0)] [20] _)
      refine sd_dup hC (by decide) dX10_keeps_126 (?_ : Sd X 127 [(0, 20), (1, 0), (2, 0)] [20, 20] _)
      refine sd_get hC (ci := 10) (j := 44) (C := RX10) (T := TX10) (N := 45) rfl rfl (by decide) in_X10 wl_5_208 dX10_keeps_127 (?_ : Sd X 130 [(0, 20), (1, 0), (2, 0)] [0, 20] _)
      refine sd_iconst hC dX10_keeps_130 ⟨by decide, by decide⟩ (?_ : Sd X 131 [(0, 20), (1, 0), (2, 0)] [0, 0, 20] _)
      refine sd_iadd hC dX10_keeps_131 (?_ : Sd X 132 [(0, 20), (1, 0), (2, 0)] [0, 20] _)
      refine sd_put hC (ci := 10) (j := 44) (C := RX10) (T := TX10) (N := 45) tyX10 tyX10_ok nmX10 rfl rfl (by decide) in_X10 rfl rfl wl_5_208 dX10_keeps_132 (?_ : Sd X 135 [(0, 20), (1, 0), (2, 0)] [] _)
      exact sd_return hC hT dX10_keeps_135
    · refine sd_aload_n hC 20 dX10_keeps_87 rfl (by decide) (by decide) (?_ : Sd X 88 [(0, 20), (1, 0), (2, 0)] [20] _)
      refine sd_get hC (ci := 10) (j := 42) (C := RX10) (T := TX10) (N := 45) rfl rfl (by decide) in_X10 wl_5_206 dX10_keeps_88 (?_ : Sd X 91 [(0, 20), (1, 0), (2, 0)] [100] _)
      refine sd_iload_n hC dX10_keeps_91 rfl (by decide) (?_ : Sd X 92 [(0, 20), (1, 0), (2, 0)] [0, 100] _)
      refine sd_aload_n hC 20 dX10_keeps_92 rfl (by decide) (by decide) (?_ : Sd X 93 [(0, 20), (1, 0), (2, 0)] [20, 0, 100] _)
      refine sd_get hC (ci := 10) (j := 44) (C := RX10) (T := TX10) (N := 45) rfl rfl (by decide) in_X10 wl_5_208 dX10_keeps_93 (?_ : Sd X 96 [(0, 20), (1, 0), (2, 0)] [0, 0, 100] _)
      refine sd_imul hC dX10_keeps_96 (?_ : Sd X 97 [(0, 20), (1, 0), (2, 0)] [0, 100] _)
      refine sd_iload_n hC dX10_keeps_97 rfl (by decide) (?_ : Sd X 98 [(0, 20), (1, 0), (2, 0)] [0, 0, 100] _)
      refine sd_iadd hC dX10_keeps_98 (?_ : Sd X 99 [(0, 20), (1, 0), (2, 0)] [0, 100] _)
      refine sd_aload_n hC 20 dX10_keeps_99 rfl (by decide) (by decide) (?_ : Sd X 100 [(0, 20), (1, 0), (2, 0)] [20, 0, 100] _)
      refine sd_get hC (ci := 10) (j := 16) (C := RX10) (T := TX10) (N := 45) rfl rfl (by decide) in_X10 wl_5_180 dX10_keeps_100 (?_ : Sd X 103 [(0, 20), (1, 0), (2, 0)] [100, 0, 100] _)
      refine sd_iload_n hC dX10_keeps_103 rfl (by decide) (?_ : Sd X 104 [(0, 20), (1, 0), (2, 0)] [0, 100, 0, 100] _)
      refine sd_iaload hC dX10_keeps_104 (?_ : Sd X 105 [(0, 20), (1, 0), (2, 0)] [0, 0, 100] _)
      refine sd_iastore hC dX10_keeps_105 (?_ : Sd X 106 [(0, 20), (1, 0), (2, 0)] [] _)
      refine sd_iinc (Γ' := [(0, 20), (1, 0), (2, 0)]) hC dX10_keeps_106 (by decide) (by rw [e2]; decide) (by decide) (?_ : Sd X 109 [(0, 20), (1, 0), (2, 0)] [] _)
      refine sd_goto (tgt := 82) hC dX10_keeps_109 rfl (?_ : Sd X 82 [(0, 20), (1, 0), (2, 0)] [] _)
      exact Sd.weak (by decide) h82
  have S_80 : Sd X 80 [(0, 20), (1, 0)] [] (B_X10_keeps_80 Q) := by
    unfold B_X10_keeps_80
    refine sd_iconst hC dX10_keeps_80 ⟨by decide, by decide⟩ (?_ : Sd X 81 [(0, 20), (1, 0)] [0] _)
    refine sd_istore_n (Γ' := [(0, 20), (1, 0), (2, 0)]) hC dX10_keeps_81 rfl (by rw [e2]; decide) (by decide) (?_ : Sd X 82 [(0, 20), (1, 0), (2, 0)] [] _)
    exact Sd.weak (by decide) (S_82)
  have S_44 : Sd X 44 [(0, 20), (1, 0), (2, 0)] [] (L_X10_keeps_44 Q) := by
    unfold L_X10_keeps_44
    refine Sd.loop (fun k44 h44 => ?_)
    refine sd_iload_n hC dX10_keeps_44 rfl (by decide) (?_ : Sd X 45 [(0, 20), (1, 0), (2, 0)] [0] _)
    refine sd_bipush hC dX10_keeps_45 (by decide) (?_ : Sd X 47 [(0, 20), (1, 0), (2, 0)] [0, 0] _)
    refine sd_icmp_ge (tgt := 70) hC dX10_keeps_47 rfl (?_ : Sd X 70 [(0, 20), (1, 0), (2, 0)] [] _) (?_ : Sd X 50 [(0, 20), (1, 0), (2, 0)] [] _)
    · refine sd_aload_n hC 20 dX10_keeps_70 rfl (by decide) (by decide) (?_ : Sd X 71 [(0, 20), (1, 0), (2, 0)] [20] _)
      refine sd_dup hC (by decide) dX10_keeps_71 (?_ : Sd X 72 [(0, 20), (1, 0), (2, 0)] [20, 20] _)
      refine sd_get hC (ci := 10) (j := 44) (C := RX10) (T := TX10) (N := 45) rfl rfl (by decide) in_X10 wl_5_208 dX10_keeps_72 (?_ : Sd X 75 [(0, 20), (1, 0), (2, 0)] [0, 20] _)
      refine sd_iconst hC dX10_keeps_75 ⟨by decide, by decide⟩ (?_ : Sd X 76 [(0, 20), (1, 0), (2, 0)] [0, 0, 20] _)
      refine sd_isub hC dX10_keeps_76 (?_ : Sd X 77 [(0, 20), (1, 0), (2, 0)] [0, 20] _)
      refine sd_put hC (ci := 10) (j := 44) (C := RX10) (T := TX10) (N := 45) tyX10 tyX10_ok nmX10 rfl rfl (by decide) in_X10 rfl rfl wl_5_208 dX10_keeps_77 (?_ : Sd X 80 [(0, 20), (1, 0), (2, 0)] [] _)
      exact Sd.weak (by decide) (S_80)
    · refine sd_aload_n hC 20 dX10_keeps_50 rfl (by decide) (by decide) (?_ : Sd X 51 [(0, 20), (1, 0), (2, 0)] [20] _)
      refine sd_get hC (ci := 10) (j := 43) (C := RX10) (T := TX10) (N := 45) rfl rfl (by decide) in_X10 wl_5_207 dX10_keeps_51 (?_ : Sd X 54 [(0, 20), (1, 0), (2, 0)] [100] _)
      refine sd_iload_n hC dX10_keeps_54 rfl (by decide) (?_ : Sd X 55 [(0, 20), (1, 0), (2, 0)] [0, 100] _)
      refine sd_iconst hC dX10_keeps_55 ⟨by decide, by decide⟩ (?_ : Sd X 56 [(0, 20), (1, 0), (2, 0)] [0, 0, 100] _)
      refine sd_isub hC dX10_keeps_56 (?_ : Sd X 57 [(0, 20), (1, 0), (2, 0)] [0, 100] _)
      refine sd_aload_n hC 20 dX10_keeps_57 rfl (by decide) (by decide) (?_ : Sd X 58 [(0, 20), (1, 0), (2, 0)] [20, 0, 100] _)
      refine sd_get hC (ci := 10) (j := 43) (C := RX10) (T := TX10) (N := 45) rfl rfl (by decide) in_X10 wl_5_207 dX10_keeps_58 (?_ : Sd X 61 [(0, 20), (1, 0), (2, 0)] [100, 0, 100] _)
      refine sd_iload_n hC dX10_keeps_61 rfl (by decide) (?_ : Sd X 62 [(0, 20), (1, 0), (2, 0)] [0, 100, 0, 100] _)
      refine sd_iaload hC dX10_keeps_62 (?_ : Sd X 63 [(0, 20), (1, 0), (2, 0)] [0, 0, 100] _)
      refine sd_iastore hC dX10_keeps_63 (?_ : Sd X 64 [(0, 20), (1, 0), (2, 0)] [] _)
      refine sd_iinc (Γ' := [(0, 20), (1, 0), (2, 0)]) hC dX10_keeps_64 (by decide) (by rw [e2]; decide) (by decide) (?_ : Sd X 67 [(0, 20), (1, 0), (2, 0)] [] _)
      refine sd_goto (tgt := 44) hC dX10_keeps_67 rfl (?_ : Sd X 44 [(0, 20), (1, 0), (2, 0)] [] _)
      exact Sd.weak (by decide) h44
  have S_14 : Sd X 14 [(0, 20), (1, 0), (2, 0)] [] (L_X10_keeps_14 Q) := by
    unfold L_X10_keeps_14
    refine Sd.loop (fun k14 h14 => ?_)
    refine sd_iload_n hC dX10_keeps_14 rfl (by decide) (?_ : Sd X 15 [(0, 20), (1, 0), (2, 0)] [0] _)
    refine sd_iload_n hC dX10_keeps_15 rfl (by decide) (?_ : Sd X 16 [(0, 20), (1, 0), (2, 0)] [0, 0] _)
    refine sd_bipush hC dX10_keeps_16 (by decide) (?_ : Sd X 18 [(0, 20), (1, 0), (2, 0)] [0, 0, 0] _)
    refine sd_imul hC dX10_keeps_18 (?_ : Sd X 19 [(0, 20), (1, 0), (2, 0)] [0, 0] _)
    refine sd_icmp_ge (tgt := 42) hC dX10_keeps_19 rfl (?_ : Sd X 42 [(0, 20), (1, 0), (2, 0)] [] _) (?_ : Sd X 22 [(0, 20), (1, 0), (2, 0)] [] _)
    · refine sd_iconst hC dX10_keeps_42 ⟨by decide, by decide⟩ (?_ : Sd X 43 [(0, 20), (1, 0), (2, 0)] [0] _)
      refine sd_istore_n (Γ' := [(0, 20), (1, 0), (2, 0)]) hC dX10_keeps_43 rfl (by rw [e2]; decide) (by decide) (?_ : Sd X 44 [(0, 20), (1, 0), (2, 0)] [] _)
      exact Sd.weak (by decide) (S_44)
    · refine sd_aload_n hC 20 dX10_keeps_22 rfl (by decide) (by decide) (?_ : Sd X 23 [(0, 20), (1, 0), (2, 0)] [20] _)
      refine sd_get hC (ci := 10) (j := 42) (C := RX10) (T := TX10) (N := 45) rfl rfl (by decide) in_X10 wl_5_206 dX10_keeps_23 (?_ : Sd X 26 [(0, 20), (1, 0), (2, 0)] [100] _)
      refine sd_iload_n hC dX10_keeps_26 rfl (by decide) (?_ : Sd X 27 [(0, 20), (1, 0), (2, 0)] [0, 100] _)
      refine sd_aload_n hC 20 dX10_keeps_27 rfl (by decide) (by decide) (?_ : Sd X 28 [(0, 20), (1, 0), (2, 0)] [20, 0, 100] _)
      refine sd_get hC (ci := 10) (j := 42) (C := RX10) (T := TX10) (N := 45) rfl rfl (by decide) in_X10 wl_5_206 dX10_keeps_28 (?_ : Sd X 31 [(0, 20), (1, 0), (2, 0)] [100, 0, 100] _)
      refine sd_iload_n hC dX10_keeps_31 rfl (by decide) (?_ : Sd X 32 [(0, 20), (1, 0), (2, 0)] [0, 100, 0, 100] _)
      refine sd_iload_n hC dX10_keeps_32 rfl (by decide) (?_ : Sd X 33 [(0, 20), (1, 0), (2, 0)] [0, 0, 100, 0, 100] _)
      refine sd_iadd hC dX10_keeps_33 (?_ : Sd X 34 [(0, 20), (1, 0), (2, 0)] [0, 100, 0, 100] _)
      refine sd_iaload hC dX10_keeps_34 (?_ : Sd X 35 [(0, 20), (1, 0), (2, 0)] [0, 0, 100] _)
      refine sd_iastore hC dX10_keeps_35 (?_ : Sd X 36 [(0, 20), (1, 0), (2, 0)] [] _)
      refine sd_iinc (Γ' := [(0, 20), (1, 0), (2, 0)]) hC dX10_keeps_36 (by decide) (by rw [e2]; decide) (by decide) (?_ : Sd X 39 [(0, 20), (1, 0), (2, 0)] [] _)
      refine sd_goto (tgt := 14) hC dX10_keeps_39 rfl (?_ : Sd X 14 [(0, 20), (1, 0), (2, 0)] [] _)
      exact Sd.weak (by decide) h14
  refine (?_ : Sd X 0 [(0, 20)] [] (E_X10_keeps Q))
  unfold E_X10_keeps
  refine sd_bipush hC dX10_keeps_0 (by decide) (?_ : Sd X 2 [(0, 20)] [0] _)
  refine sd_istore_n (Γ' := [(0, 20), (1, 0)]) hC dX10_keeps_2 rfl (by rw [e2]; decide) (by decide) (?_ : Sd X 3 [(0, 20), (1, 0)] [] _)
  refine sd_aload_n hC 20 dX10_keeps_3 rfl (by decide) (by decide) (?_ : Sd X 4 [(0, 20), (1, 0)] [20] _)
  refine sd_get hC (ci := 10) (j := 44) (C := RX10) (T := TX10) (N := 45) rfl rfl (by decide) in_X10 wl_5_208 dX10_keeps_4 (?_ : Sd X 7 [(0, 20), (1, 0)] [0] _)
  refine sd_bipush hC dX10_keeps_7 (by decide) (?_ : Sd X 9 [(0, 20), (1, 0)] [0, 0] _)
  refine sd_icmp_ne (tgt := 80) hC dX10_keeps_9 rfl (?_ : Sd X 80 [(0, 20), (1, 0)] [] _) (?_ : Sd X 12 [(0, 20), (1, 0)] [] _)
  · exact Sd.weak (by decide) (S_80)
  · refine sd_iconst hC dX10_keeps_12 ⟨by decide, by decide⟩ (?_ : Sd X 13 [(0, 20), (1, 0)] [0] _)
    refine sd_istore_n (Γ' := [(0, 20), (1, 0), (2, 0)]) hC dX10_keeps_13 rfl (by rw [e2]; decide) (by decide) (?_ : Sd X 14 [(0, 20), (1, 0), (2, 0)] [] _)
    exact Sd.weak (by decide) (S_14)
theorem wl_8_170 : Cond.methodLink RX10 532 yX10_keeps ∈ WALL := tb8 (List.mem_of_getElem? (i := 170) rfl) rfl
theorem wl_8_172 : Cond.instanceMethod yX10_keeps ∈ WALL := tb8 (List.mem_of_getElem? (i := 172) rfl) rfl
theorem wp_130 : Cond.selects RX10 yX10_keeps yX10_keeps ∈ WALL := tbS (List.mem_of_getElem? (i := 130) rfl)
theorem wl_8_173 : Cond.code yX10_keeps cX10_keeps 3 none ∈ WALL := tb8 (List.mem_of_getElem? (i := 173) rfl) rfl
theorem hd_X10_close : yX10_close.cls ≠ "java/lang/invoke/MethodHandle" ∧ yX10_close.cls ≠ "java/lang/invoke/VarHandle" ∧ (parseMethodDescriptor yX10_close.desc).map (fun d => d.parameters.length) = some 1 := by decide +kernel
set_option maxRecDepth 100000 in
set_option maxHeartbeats 4000000 in
theorem M_X10_close (l : Launch) : Mt l yX10_close (Cond.code yX10_close cX10_close 2 (some .boolean) :: WALL) { frames := 8, cells := 0, slots := 0, locals := 195 } [20, 0] (some 0) T_X10_close := by
  refine Mt.mk (B := E_X10_close) (by decide +kernel) (by decide) (fun _ _ _ hh => hh) ?_
  intro X Q e1 e2 e3 hC hN hT
  subst e1
  have hC : CF X cX10_close RX10 WALL := hC
  refine (?_ : Sd X 0 [(0, 20), (1, 0)] [] (E_X10_close Q))
  unfold E_X10_close
  refine sd_aload_n hC 20 dX10_close_0 rfl (by decide) (by decide) (?_ : Sd X 1 [(0, 20), (1, 0)] [20] _)
  refine sd_iconst hC dX10_close_1 ⟨by decide, by decide⟩ (?_ : Sd X 2 [(0, 20), (1, 0)] [0, 20] _)
  refine sd_put hC (ci := 10) (j := 0) (C := RX10) (T := TX10) (N := 45) tyX10 tyX10_ok nmX10 rfl rfl (by decide) in_X10 rfl rfl wl_5_164 dX10_close_2 (?_ : Sd X 5 [(0, 20), (1, 0)] [] _)
  refine sd_aload_n hC 20 dX10_close_5 rfl (by decide) (by decide) (?_ : Sd X 6 [(0, 20), (1, 0)] [20] _)
  refine sd_iload_n hC dX10_close_6 rfl (by decide) (?_ : Sd X 7 [(0, 20), (1, 0)] [0, 20] _)
  refine sd_inv0 (τ := []) (τr := [0]) (ci := 10) (q := (RX10, TX10, 45)) hC WG (M_X10_isGate _) rfl rfl rfl rfl  rfl rfl wl_7_187 wl_7_189 wp_106 wl_1_10 wl_7_190 hd_X10_isGate (by rw [e3]; decide) (by decide) dX10_close_7 (?_ : Sd X 10 [(0, 20), (1, 0)] [0] _)
  refine sd_if_ne (tgt := 19) hC dX10_close_10 rfl (?_ : Sd X 19 [(0, 20), (1, 0)] [] _) (?_ : Sd X 13 [(0, 20), (1, 0)] [] _)
  · refine sd_aload_n hC 20 dX10_close_19 rfl (by decide) (by decide) (?_ : Sd X 20 [(0, 20), (1, 0)] [20] _)
    refine sd_iload_n hC dX10_close_20 rfl (by decide) (?_ : Sd X 21 [(0, 20), (1, 0)] [0, 20] _)
    refine sd_bipush hC dX10_close_21 (by decide) (?_ : Sd X 23 [(0, 20), (1, 0)] [0, 0, 20] _)
    refine sd_inv0 (τ := []) (τr := [0, 0]) (ci := 10) (q := (RX10, TX10, 45)) hC WG (M_X10_of _) rfl rfl rfl rfl  rfl rfl wl_7_131 wl_7_133 wp_96 wl_1_10 wl_7_134 hd_X10_of (by rw [e3]; decide) (by decide) dX10_close_23 (?_ : Sd X 26 [(0, 20), (1, 0)] [0] _)
    refine sd_iconst hC dX10_close_26 ⟨by decide, by decide⟩ (?_ : Sd X 27 [(0, 20), (1, 0)] [0, 0] _)
    refine sd_icmp_ne (tgt := 36) hC dX10_close_27 rfl (?_ : Sd X 36 [(0, 20), (1, 0)] [] _) (?_ : Sd X 30 [(0, 20), (1, 0)] [] _)
    · refine sd_aload_n hC 20 dX10_close_36 rfl (by decide) (by decide) (?_ : Sd X 37 [(0, 20), (1, 0)] [20] _)
      refine sd_inv0v (τ := []) (τr := []) (ci := 10) (q := (RX10, TX10, 45)) hC WG (M_X10_keeps _) rfl rfl rfl rfl  rfl rfl wl_8_170 wl_8_172 wp_130 wl_1_10 wl_8_173 hd_X10_keeps (by rw [e3]; decide) (by decide) dX10_close_37 (?_ : Sd X 40 [(0, 20), (1, 0)] [] _)
      refine sd_aload_n hC 20 dX10_close_40 rfl (by decide) (by decide) (?_ : Sd X 41 [(0, 20), (1, 0)] [20] _)
      refine sd_get hC (ci := 10) (j := 16) (C := RX10) (T := TX10) (N := 45) rfl rfl (by decide) in_X10 wl_5_180 dX10_close_41 (?_ : Sd X 44 [(0, 20), (1, 0)] [100] _)
      refine sd_bipush hC dX10_close_44 (by decide) (?_ : Sd X 46 [(0, 20), (1, 0)] [0, 100] _)
      refine sd_iload_n hC dX10_close_46 rfl (by decide) (?_ : Sd X 47 [(0, 20), (1, 0)] [0, 0, 100] _)
      refine sd_imul hC dX10_close_47 (?_ : Sd X 48 [(0, 20), (1, 0)] [0, 100] _)
      refine sd_bipush hC dX10_close_48 (by decide) (?_ : Sd X 50 [(0, 20), (1, 0)] [0, 0, 100] _)
      refine sd_iadd hC dX10_close_50 (?_ : Sd X 51 [(0, 20), (1, 0)] [0, 100] _)
      refine sd_iconst hC dX10_close_51 ⟨by decide, by decide⟩ (?_ : Sd X 52 [(0, 20), (1, 0)] [0, 0, 100] _)
      refine sd_iastore hC dX10_close_52 (?_ : Sd X 53 [(0, 20), (1, 0)] [] _)
      refine sd_aload_n hC 20 dX10_close_53 rfl (by decide) (by decide) (?_ : Sd X 54 [(0, 20), (1, 0)] [20] _)
      refine sd_inv0v (τ := []) (τr := []) (ci := 10) (q := (RX10, TX10, 45)) hC WG (M_X10_dawns _) rfl rfl rfl rfl  rfl rfl wl_7_87 wl_7_89 wp_86 wl_1_10 wl_7_90 hd_X10_dawns (by rw [e3]; decide) (by decide) dX10_close_54 (?_ : Sd X 57 [(0, 20), (1, 0)] [] _)
      refine sd_aload_n hC 20 dX10_close_57 rfl (by decide) (by decide) (?_ : Sd X 58 [(0, 20), (1, 0)] [20] _)
      refine sd_inv0 (τ := []) (τr := []) (ci := 10) (q := (RX10, TX10, 45)) hC WG (M_X10_granted _) rfl rfl rfl rfl  rfl rfl wl_8_75 wl_8_77 wp_125 wl_1_10 wl_8_78 hd_X10_granted (by rw [e3]; decide) (by decide) dX10_close_58 (?_ : Sd X 61 [(0, 20), (1, 0)] [0] _)
      exact sd_zreturn hC hT dX10_close_61
    · refine sd_aload_n hC 20 dX10_close_30 rfl (by decide) (by decide) (?_ : Sd X 31 [(0, 20), (1, 0)] [20] _)
      refine sd_iconst hC dX10_close_31 ⟨by decide, by decide⟩ (?_ : Sd X 32 [(0, 20), (1, 0)] [0, 20] _)
      refine sd_inv0 (τ := []) (τr := [0]) (ci := 10) (q := (RX10, TX10, 45)) hC WG (M_X10_denied _) rfl rfl rfl rfl  rfl rfl wl_8_71 wl_8_73 wp_124 wl_1_10 wl_8_74 hd_X10_denied (by rw [e3]; decide) (by decide) dX10_close_32 (?_ : Sd X 35 [(0, 20), (1, 0)] [0] _)
      exact sd_zreturn hC hT dX10_close_35
  · refine sd_aload_n hC 20 dX10_close_13 rfl (by decide) (by decide) (?_ : Sd X 14 [(0, 20), (1, 0)] [20] _)
    refine sd_iconst hC dX10_close_14 ⟨by decide, by decide⟩ (?_ : Sd X 15 [(0, 20), (1, 0)] [0, 20] _)
    refine sd_inv0 (τ := []) (τr := [0]) (ci := 10) (q := (RX10, TX10, 45)) hC WG (M_X10_denied _) rfl rfl rfl rfl  rfl rfl wl_8_71 wl_8_73 wp_124 wl_1_10 wl_8_74 hd_X10_denied (by rw [e3]; decide) (by decide) dX10_close_15 (?_ : Sd X 18 [(0, 20), (1, 0)] [0] _)
    exact sd_zreturn hC hT dX10_close_18
theorem hd_X10_isAtEnd : yX10_isAtEnd.cls ≠ "java/lang/invoke/MethodHandle" ∧ yX10_isAtEnd.cls ≠ "java/lang/invoke/VarHandle" ∧ (parseMethodDescriptor yX10_isAtEnd.desc).map (fun d => d.parameters.length) = some 1 := by decide +kernel
set_option maxRecDepth 100000 in
set_option maxHeartbeats 4000000 in
theorem M_X10_isAtEnd (l : Launch) : Mt l yX10_isAtEnd (Cond.code yX10_isAtEnd cX10_isAtEnd 2 (some .boolean) :: WALL) { frames := 0, cells := 0, slots := 0, locals := 0 } [20, 0] (some 0) T_X10_isAtEnd := by
  refine Mt.mk (B := E_X10_isAtEnd) (by decide +kernel) (by decide) (fun _ _ _ hh => hh) ?_
  intro X Q e1 e2 e3 hC hN hT
  subst e1
  have hC : CF X cX10_isAtEnd RX10 WALL := hC
  have S_31 : Sd X 31 [(0, 20), (1, 0)] [0] (B_X10_isAtEnd_31 Q) := by
    unfold B_X10_isAtEnd_31
    exact sd_zreturn hC hT dX10_isAtEnd_31
  refine (?_ : Sd X 0 [(0, 20), (1, 0)] [] (E_X10_isAtEnd Q))
  unfold E_X10_isAtEnd
  refine sd_aload_n hC 20 dX10_isAtEnd_0 rfl (by decide) (by decide) (?_ : Sd X 1 [(0, 20), (1, 0)] [20] _)
  refine sd_get hC (ci := 10) (j := 32) (C := RX10) (T := TX10) (N := 45) rfl rfl (by decide) in_X10 wl_5_196 dX10_isAtEnd_1 (?_ : Sd X 4 [(0, 20), (1, 0)] [100] _)
  refine sd_bipush hC dX10_isAtEnd_4 (by decide) (?_ : Sd X 6 [(0, 20), (1, 0)] [0, 100] _)
  refine sd_iload_n hC dX10_isAtEnd_6 rfl (by decide) (?_ : Sd X 7 [(0, 20), (1, 0)] [0, 0, 100] _)
  refine sd_imul hC dX10_isAtEnd_7 (?_ : Sd X 8 [(0, 20), (1, 0)] [0, 100] _)
  refine sd_bipush hC dX10_isAtEnd_8 (by decide) (?_ : Sd X 10 [(0, 20), (1, 0)] [0, 0, 100] _)
  refine sd_iadd hC dX10_isAtEnd_10 (?_ : Sd X 11 [(0, 20), (1, 0)] [0, 100] _)
  refine sd_iaload hC dX10_isAtEnd_11 (?_ : Sd X 12 [(0, 20), (1, 0)] [0] _)
  refine sd_aload_n hC 20 dX10_isAtEnd_12 rfl (by decide) (by decide) (?_ : Sd X 13 [(0, 20), (1, 0)] [20, 0] _)
  refine sd_get hC (ci := 10) (j := 37) (C := RX10) (T := TX10) (N := 45) rfl rfl (by decide) in_X10 wl_5_201 dX10_isAtEnd_13 (?_ : Sd X 16 [(0, 20), (1, 0)] [100, 0] _)
  refine sd_aload_n hC 20 dX10_isAtEnd_16 rfl (by decide) (by decide) (?_ : Sd X 17 [(0, 20), (1, 0)] [20, 100, 0] _)
  refine sd_get hC (ci := 10) (j := 34) (C := RX10) (T := TX10) (N := 45) rfl rfl (by decide) in_X10 wl_5_198 dX10_isAtEnd_17 (?_ : Sd X 20 [(0, 20), (1, 0)] [100, 100, 0] _)
  refine sd_iload_n hC dX10_isAtEnd_20 rfl (by decide) (?_ : Sd X 21 [(0, 20), (1, 0)] [0, 100, 100, 0] _)
  refine sd_iaload hC dX10_isAtEnd_21 (?_ : Sd X 22 [(0, 20), (1, 0)] [0, 100, 0] _)
  refine sd_iaload hC dX10_isAtEnd_22 (?_ : Sd X 23 [(0, 20), (1, 0)] [0, 0] _)
  refine sd_icmp_ne (tgt := 30) hC dX10_isAtEnd_23 rfl (?_ : Sd X 30 [(0, 20), (1, 0)] [] _) (?_ : Sd X 26 [(0, 20), (1, 0)] [] _)
  · refine sd_iconst hC dX10_isAtEnd_30 ⟨by decide, by decide⟩ (?_ : Sd X 31 [(0, 20), (1, 0)] [0] _)
    exact Sd.weak (by decide) (S_31)
  · refine sd_iconst hC dX10_isAtEnd_26 ⟨by decide, by decide⟩ (?_ : Sd X 27 [(0, 20), (1, 0)] [0] _)
    refine sd_goto (tgt := 31) hC dX10_isAtEnd_27 rfl (?_ : Sd X 31 [(0, 20), (1, 0)] [0] _)
    exact Sd.weak (by decide) (S_31)
theorem wl_8_39 : Cond.methodLink RX10 474 yX10_isAtEnd ∈ WALL := tb8 (List.mem_of_getElem? (i := 39) rfl) rfl
theorem wl_8_41 : Cond.instanceMethod yX10_isAtEnd ∈ WALL := tb8 (List.mem_of_getElem? (i := 41) rfl) rfl
theorem wp_117 : Cond.selects RX10 yX10_isAtEnd yX10_isAtEnd ∈ WALL := tbS (List.mem_of_getElem? (i := 117) rfl)
theorem wl_8_42 : Cond.code yX10_isAtEnd cX10_isAtEnd 2 (some .boolean) ∈ WALL := tb8 (List.mem_of_getElem? (i := 42) rfl) rfl
theorem hd_X10_comes : yX10_comes.cls ≠ "java/lang/invoke/MethodHandle" ∧ yX10_comes.cls ≠ "java/lang/invoke/VarHandle" ∧ (parseMethodDescriptor yX10_comes.desc).map (fun d => d.parameters.length) = some 1 := by decide +kernel
set_option maxRecDepth 100000 in
set_option maxHeartbeats 4000000 in
theorem M_X10_comes (l : Launch) : Mt l yX10_comes (Cond.code yX10_comes cX10_comes 3 none :: WALL) { frames := 1, cells := 0, slots := 0, locals := 21 } [20, 0] none T_X10_comes := by
  refine Mt.mk (B := E_X10_comes) (by decide +kernel) (by decide) (fun _ _ _ hh => hh) ?_
  intro X Q e1 e2 e3 hC hN hT
  subst e1
  have hC : CF X cX10_comes RX10 WALL := hC
  have S_68 : Sd X 68 [(0, 20), (1, 0), (2, 0)] [] (B_X10_comes_68 Q) := by
    unfold B_X10_comes_68
    exact sd_return hC hT dX10_comes_68
  refine (?_ : Sd X 0 [(0, 20), (1, 0)] [] (E_X10_comes Q))
  unfold E_X10_comes
  refine sd_bipush hC dX10_comes_0 (by decide) (?_ : Sd X 2 [(0, 20), (1, 0)] [0] _)
  refine sd_iload_n hC dX10_comes_2 rfl (by decide) (?_ : Sd X 3 [(0, 20), (1, 0)] [0, 0] _)
  refine sd_imul hC dX10_comes_3 (?_ : Sd X 4 [(0, 20), (1, 0)] [0] _)
  refine sd_istore_n (Γ' := [(0, 20), (1, 0), (2, 0)]) hC dX10_comes_4 rfl (by rw [e2]; decide) (by decide) (?_ : Sd X 5 [(0, 20), (1, 0), (2, 0)] [] _)
  refine sd_aload_n hC 20 dX10_comes_5 rfl (by decide) (by decide) (?_ : Sd X 6 [(0, 20), (1, 0), (2, 0)] [20] _)
  refine sd_iload_n hC dX10_comes_6 rfl (by decide) (?_ : Sd X 7 [(0, 20), (1, 0), (2, 0)] [0, 20] _)
  refine sd_inv0 (τ := []) (τr := [0]) (ci := 10) (q := (RX10, TX10, 45)) hC WG (M_X10_isAtEnd _) rfl rfl rfl rfl  rfl rfl wl_8_39 wl_8_41 wp_117 wl_1_10 wl_8_42 hd_X10_isAtEnd (by rw [e3]; decide) (by decide) dX10_comes_7 (?_ : Sd X 10 [(0, 20), (1, 0), (2, 0)] [0] _)
  refine sd_if_eq (tgt := 42) hC dX10_comes_10 rfl (?_ : Sd X 42 [(0, 20), (1, 0), (2, 0)] [] _) (?_ : Sd X 13 [(0, 20), (1, 0), (2, 0)] [] _)
  · refine sd_aload_n hC 20 dX10_comes_42 rfl (by decide) (by decide) (?_ : Sd X 43 [(0, 20), (1, 0), (2, 0)] [20] _)
    refine sd_get hC (ci := 10) (j := 32) (C := RX10) (T := TX10) (N := 45) rfl rfl (by decide) in_X10 wl_5_196 dX10_comes_43 (?_ : Sd X 46 [(0, 20), (1, 0), (2, 0)] [100] _)
    refine sd_iload_n hC dX10_comes_46 rfl (by decide) (?_ : Sd X 47 [(0, 20), (1, 0), (2, 0)] [0, 100] _)
    refine sd_iconst hC dX10_comes_47 ⟨by decide, by decide⟩ (?_ : Sd X 48 [(0, 20), (1, 0), (2, 0)] [0, 0, 100] _)
    refine sd_iadd hC dX10_comes_48 (?_ : Sd X 49 [(0, 20), (1, 0), (2, 0)] [0, 100] _)
    refine sd_iconst hC dX10_comes_49 ⟨by decide, by decide⟩ (?_ : Sd X 50 [(0, 20), (1, 0), (2, 0)] [0, 0, 100] _)
    refine sd_iastore hC dX10_comes_50 (?_ : Sd X 51 [(0, 20), (1, 0), (2, 0)] [] _)
    refine sd_aload_n hC 20 dX10_comes_51 rfl (by decide) (by decide) (?_ : Sd X 52 [(0, 20), (1, 0), (2, 0)] [20] _)
    refine sd_get hC (ci := 10) (j := 32) (C := RX10) (T := TX10) (N := 45) rfl rfl (by decide) in_X10 wl_5_196 dX10_comes_52 (?_ : Sd X 55 [(0, 20), (1, 0), (2, 0)] [100] _)
    refine sd_iload_n hC dX10_comes_55 rfl (by decide) (?_ : Sd X 56 [(0, 20), (1, 0), (2, 0)] [0, 100] _)
    refine sd_bipush hC dX10_comes_56 (by decide) (?_ : Sd X 58 [(0, 20), (1, 0), (2, 0)] [0, 0, 100] _)
    refine sd_iadd hC dX10_comes_58 (?_ : Sd X 59 [(0, 20), (1, 0), (2, 0)] [0, 100] _)
    refine sd_aload_n hC 20 dX10_comes_59 rfl (by decide) (by decide) (?_ : Sd X 60 [(0, 20), (1, 0), (2, 0)] [20, 0, 100] _)
    refine sd_get hC (ci := 10) (j := 32) (C := RX10) (T := TX10) (N := 45) rfl rfl (by decide) in_X10 wl_5_196 dX10_comes_60 (?_ : Sd X 63 [(0, 20), (1, 0), (2, 0)] [100, 0, 100] _)
    refine sd_sipush hC dX10_comes_63 (by decide) (?_ : Sd X 66 [(0, 20), (1, 0), (2, 0)] [0, 100, 0, 100] _)
    refine sd_iaload hC dX10_comes_66 (?_ : Sd X 67 [(0, 20), (1, 0), (2, 0)] [0, 0, 100] _)
    refine sd_iastore hC dX10_comes_67 (?_ : Sd X 68 [(0, 20), (1, 0), (2, 0)] [] _)
    exact Sd.weak (by decide) (S_68)
  · refine sd_aload_n hC 20 dX10_comes_13 rfl (by decide) (by decide) (?_ : Sd X 14 [(0, 20), (1, 0), (2, 0)] [20] _)
    refine sd_get hC (ci := 10) (j := 32) (C := RX10) (T := TX10) (N := 45) rfl rfl (by decide) in_X10 wl_5_196 dX10_comes_14 (?_ : Sd X 17 [(0, 20), (1, 0), (2, 0)] [100] _)
    refine sd_iload_n hC dX10_comes_17 rfl (by decide) (?_ : Sd X 18 [(0, 20), (1, 0), (2, 0)] [0, 100] _)
    refine sd_iconst hC dX10_comes_18 ⟨by decide, by decide⟩ (?_ : Sd X 19 [(0, 20), (1, 0), (2, 0)] [0, 0, 100] _)
    refine sd_iadd hC dX10_comes_19 (?_ : Sd X 20 [(0, 20), (1, 0), (2, 0)] [0, 100] _)
    refine sd_iconst hC dX10_comes_20 ⟨by decide, by decide⟩ (?_ : Sd X 21 [(0, 20), (1, 0), (2, 0)] [0, 0, 100] _)
    refine sd_iastore hC dX10_comes_21 (?_ : Sd X 22 [(0, 20), (1, 0), (2, 0)] [] _)
    refine sd_aload_n hC 20 dX10_comes_22 rfl (by decide) (by decide) (?_ : Sd X 23 [(0, 20), (1, 0), (2, 0)] [20] _)
    refine sd_get hC (ci := 10) (j := 32) (C := RX10) (T := TX10) (N := 45) rfl rfl (by decide) in_X10 wl_5_196 dX10_comes_23 (?_ : Sd X 26 [(0, 20), (1, 0), (2, 0)] [100] _)
    refine sd_iload_n hC dX10_comes_26 rfl (by decide) (?_ : Sd X 27 [(0, 20), (1, 0), (2, 0)] [0, 100] _)
    refine sd_bipush hC dX10_comes_27 (by decide) (?_ : Sd X 29 [(0, 20), (1, 0), (2, 0)] [0, 0, 100] _)
    refine sd_iadd hC dX10_comes_29 (?_ : Sd X 30 [(0, 20), (1, 0), (2, 0)] [0, 100] _)
    refine sd_aload_n hC 20 dX10_comes_30 rfl (by decide) (by decide) (?_ : Sd X 31 [(0, 20), (1, 0), (2, 0)] [20, 0, 100] _)
    refine sd_get hC (ci := 10) (j := 32) (C := RX10) (T := TX10) (N := 45) rfl rfl (by decide) in_X10 wl_5_196 dX10_comes_31 (?_ : Sd X 34 [(0, 20), (1, 0), (2, 0)] [100, 0, 100] _)
    refine sd_sipush hC dX10_comes_34 (by decide) (?_ : Sd X 37 [(0, 20), (1, 0), (2, 0)] [0, 100, 0, 100] _)
    refine sd_iaload hC dX10_comes_37 (?_ : Sd X 38 [(0, 20), (1, 0), (2, 0)] [0, 0, 100] _)
    refine sd_iastore hC dX10_comes_38 (?_ : Sd X 39 [(0, 20), (1, 0), (2, 0)] [] _)
    refine sd_goto (tgt := 68) hC dX10_comes_39 rfl (?_ : Sd X 68 [(0, 20), (1, 0), (2, 0)] [] _)
    exact Sd.weak (by decide) (S_68)
theorem hd_X10_deepestNow : yX10_deepestNow.cls ≠ "java/lang/invoke/MethodHandle" ∧ yX10_deepestNow.cls ≠ "java/lang/invoke/VarHandle" ∧ (parseMethodDescriptor yX10_deepestNow.desc).map (fun d => d.parameters.length) = some 0 := by decide +kernel
set_option maxRecDepth 100000 in
set_option maxHeartbeats 4000000 in
theorem M_X10_deepestNow (l : Launch) : Mt l yX10_deepestNow (Cond.code yX10_deepestNow cX10_deepestNow 4 (some .int) :: WALL) { frames := 4, cells := 0, slots := 0, locals := 90 } [20] (some 0) T_X10_deepestNow := by
  refine Mt.mk (B := E_X10_deepestNow) (by decide +kernel) (by decide) (fun _ _ _ hh => hh) ?_
  intro X Q e1 e2 e3 hC hN hT
  subst e1
  have hC : CF X cX10_deepestNow RX10 WALL := hC
  have S_85 : ∀ (k15 : tK), Sd X 15 [(0, 20), (1, 0), (2, 0)] [] k15 → Sd X 85 [(0, 20), (1, 0), (2, 0), (3, 0)] [0, 0] (B_X10_deepestNow_85 Q k15) := by
    intro k15 h15
    unfold B_X10_deepestNow_85
    refine sd_iadd hC dX10_deepestNow_85 (?_ : Sd X 86 [(0, 20), (1, 0), (2, 0), (3, 0)] [0] _)
    refine sd_istore_n (Γ' := [(0, 20), (1, 0), (2, 0), (3, 0)]) hC dX10_deepestNow_86 rfl (by rw [e2]; decide) (by decide) (?_ : Sd X 87 [(0, 20), (1, 0), (2, 0), (3, 0)] [] _)
    refine sd_goto (tgt := 15) hC dX10_deepestNow_87 rfl (?_ : Sd X 15 [(0, 20), (1, 0), (2, 0), (3, 0)] [] _)
    exact Sd.weak (by decide) h15
  have S_68 : ∀ (k15 : tK), Sd X 15 [(0, 20), (1, 0), (2, 0)] [] k15 → ∀ (k23 : tK), Sd X 23 [(0, 20), (1, 0), (2, 0), (3, 0)] [] k23 → Sd X 68 [(0, 20), (1, 0), (2, 0), (3, 0)] [0] (B_X10_deepestNow_68 Q k15 k23) := by
    intro k15 h15 k23 h23
    unfold B_X10_deepestNow_68
    refine sd_istore_n (Γ' := [(0, 20), (1, 0), (2, 0), (3, 0)]) hC dX10_deepestNow_68 rfl (by rw [e2]; decide) (by decide) (?_ : Sd X 69 [(0, 20), (1, 0), (2, 0), (3, 0)] [] _)
    refine sd_iinc (Γ' := [(0, 20), (1, 0), (2, 0), (3, 0)]) hC dX10_deepestNow_69 (by decide) (by rw [e2]; decide) (by decide) (?_ : Sd X 72 [(0, 20), (1, 0), (2, 0), (3, 0)] [] _)
    refine sd_goto (tgt := 23) hC dX10_deepestNow_72 rfl (?_ : Sd X 23 [(0, 20), (1, 0), (2, 0), (3, 0)] [] _)
    exact Sd.weak (by decide) h23
  have S_63 : ∀ (k15 : tK), Sd X 15 [(0, 20), (1, 0), (2, 0)] [] k15 → ∀ (k23 : tK), Sd X 23 [(0, 20), (1, 0), (2, 0), (3, 0)] [] k23 → Sd X 63 [(0, 20), (1, 0), (2, 0), (3, 0)] [] (B_X10_deepestNow_63 Q k15 k23) := by
    intro k15 h15 k23 h23
    unfold B_X10_deepestNow_63
    refine sd_iconst hC dX10_deepestNow_63 ⟨by decide, by decide⟩ (?_ : Sd X 64 [(0, 20), (1, 0), (2, 0), (3, 0)] [0] _)
    refine sd_goto (tgt := 68) hC dX10_deepestNow_64 rfl (?_ : Sd X 68 [(0, 20), (1, 0), (2, 0), (3, 0)] [0] _)
    exact Sd.weak (by decide) (S_68 k15 h15 k23 h23)
  have S_67 : ∀ (k15 : tK), Sd X 15 [(0, 20), (1, 0), (2, 0)] [] k15 → ∀ (k23 : tK), Sd X 23 [(0, 20), (1, 0), (2, 0), (3, 0)] [] k23 → Sd X 67 [(0, 20), (1, 0), (2, 0), (3, 0)] [] (B_X10_deepestNow_67 Q k15 k23) := by
    intro k15 h15 k23 h23
    unfold B_X10_deepestNow_67
    refine sd_iconst hC dX10_deepestNow_67 ⟨by decide, by decide⟩ (?_ : Sd X 68 [(0, 20), (1, 0), (2, 0), (3, 0)] [0] _)
    exact Sd.weak (by decide) (S_68 k15 h15 k23 h23)
  have S_23 : ∀ (k15 : tK), Sd X 15 [(0, 20), (1, 0), (2, 0)] [] k15 → Sd X 23 [(0, 20), (1, 0), (2, 0), (3, 0)] [] (L_X10_deepestNow_23 Q k15) := by
    intro k15 h15
    unfold L_X10_deepestNow_23
    refine Sd.loop (fun k23 h23 => ?_)
    refine sd_iload_n hC dX10_deepestNow_23 rfl (by decide) (?_ : Sd X 24 [(0, 20), (1, 0), (2, 0), (3, 0)] [0] _)
    refine sd_aload_n hC 20 dX10_deepestNow_24 rfl (by decide) (by decide) (?_ : Sd X 25 [(0, 20), (1, 0), (2, 0), (3, 0)] [20, 0] _)
    refine sd_get hC (ci := 10) (j := 17) (C := RX10) (T := TX10) (N := 45) rfl rfl (by decide) in_X10 wl_5_181 dX10_deepestNow_25 (?_ : Sd X 28 [(0, 20), (1, 0), (2, 0), (3, 0)] [0, 0] _)
    refine sd_icmp_ge (tgt := 75) hC dX10_deepestNow_28 rfl (?_ : Sd X 75 [(0, 20), (1, 0), (2, 0), (3, 0)] [] _) (?_ : Sd X 31 [(0, 20), (1, 0), (2, 0), (3, 0)] [] _)
    · refine sd_iload_n hC dX10_deepestNow_75 rfl (by decide) (?_ : Sd X 76 [(0, 20), (1, 0), (2, 0), (3, 0)] [0] _)
      refine sd_iload_n hC dX10_deepestNow_76 rfl (by decide) (?_ : Sd X 77 [(0, 20), (1, 0), (2, 0), (3, 0)] [0, 0] _)
      refine sd_if_eq (tgt := 84) hC dX10_deepestNow_77 rfl (?_ : Sd X 84 [(0, 20), (1, 0), (2, 0), (3, 0)] [0] _) (?_ : Sd X 80 [(0, 20), (1, 0), (2, 0), (3, 0)] [0] _)
      · refine sd_iconst hC dX10_deepestNow_84 ⟨by decide, by decide⟩ (?_ : Sd X 85 [(0, 20), (1, 0), (2, 0), (3, 0)] [0, 0] _)
        exact Sd.weak (by decide) (S_85 k15 h15)
      · refine sd_iconst hC dX10_deepestNow_80 ⟨by decide, by decide⟩ (?_ : Sd X 81 [(0, 20), (1, 0), (2, 0), (3, 0)] [0, 0] _)
        refine sd_goto (tgt := 85) hC dX10_deepestNow_81 rfl (?_ : Sd X 85 [(0, 20), (1, 0), (2, 0), (3, 0)] [0, 0] _)
        exact Sd.weak (by decide) (S_85 k15 h15)
    · refine sd_iload_n hC dX10_deepestNow_31 rfl (by decide) (?_ : Sd X 32 [(0, 20), (1, 0), (2, 0), (3, 0)] [0] _)
      refine sd_if_ne (tgt := 63) hC dX10_deepestNow_32 rfl (?_ : Sd X 63 [(0, 20), (1, 0), (2, 0), (3, 0)] [] _) (?_ : Sd X 35 [(0, 20), (1, 0), (2, 0), (3, 0)] [] _)
      · exact Sd.weak (by decide) (S_63 k15 h15 k23 h23)
      · refine sd_aload_n hC 20 dX10_deepestNow_35 rfl (by decide) (by decide) (?_ : Sd X 36 [(0, 20), (1, 0), (2, 0), (3, 0)] [20] _)
        refine sd_iload_n hC dX10_deepestNow_36 rfl (by decide) (?_ : Sd X 37 [(0, 20), (1, 0), (2, 0), (3, 0)] [0, 20] _)
        refine sd_iconst hC dX10_deepestNow_37 ⟨by decide, by decide⟩ (?_ : Sd X 38 [(0, 20), (1, 0), (2, 0), (3, 0)] [0, 0, 20] _)
        refine sd_inv0 (τ := []) (τr := [0, 0]) (ci := 10) (q := (RX10, TX10, 45)) hC WG (M_X10_of _) rfl rfl rfl rfl  rfl rfl wl_7_131 wl_7_133 wp_96 wl_1_10 wl_7_134 hd_X10_of (by rw [e3]; decide) (by decide) dX10_deepestNow_38 (?_ : Sd X 41 [(0, 20), (1, 0), (2, 0), (3, 0)] [0] _)
        refine sd_iload_n hC dX10_deepestNow_41 rfl (by decide) (?_ : Sd X 42 [(0, 20), (1, 0), (2, 0), (3, 0)] [0, 0] _)
        refine sd_icmp_ne (tgt := 67) hC dX10_deepestNow_42 rfl (?_ : Sd X 67 [(0, 20), (1, 0), (2, 0), (3, 0)] [] _) (?_ : Sd X 45 [(0, 20), (1, 0), (2, 0), (3, 0)] [] _)
        · exact Sd.weak (by decide) (S_67 k15 h15 k23 h23)
        · refine sd_aload_n hC 20 dX10_deepestNow_45 rfl (by decide) (by decide) (?_ : Sd X 46 [(0, 20), (1, 0), (2, 0), (3, 0)] [20] _)
          refine sd_iload_n hC dX10_deepestNow_46 rfl (by decide) (?_ : Sd X 47 [(0, 20), (1, 0), (2, 0), (3, 0)] [0, 20] _)
          refine sd_inv0 (τ := []) (τr := [0]) (ci := 10) (q := (RX10, TX10, 45)) hC WG (M_X10_goesThrough _) rfl rfl rfl rfl  rfl rfl wl_7_135 wl_7_137 wp_97 wl_1_10 wl_7_138 hd_X10_goesThrough (by rw [e3]; decide) (by decide) dX10_deepestNow_47 (?_ : Sd X 50 [(0, 20), (1, 0), (2, 0), (3, 0)] [0] _)
          refine sd_if_eq (tgt := 67) hC dX10_deepestNow_50 rfl (?_ : Sd X 67 [(0, 20), (1, 0), (2, 0), (3, 0)] [] _) (?_ : Sd X 53 [(0, 20), (1, 0), (2, 0), (3, 0)] [] _)
          · exact Sd.weak (by decide) (S_67 k15 h15 k23 h23)
          · refine sd_aload_n hC 20 dX10_deepestNow_53 rfl (by decide) (by decide) (?_ : Sd X 54 [(0, 20), (1, 0), (2, 0), (3, 0)] [20] _)
            refine sd_iload_n hC dX10_deepestNow_54 rfl (by decide) (?_ : Sd X 55 [(0, 20), (1, 0), (2, 0), (3, 0)] [0, 20] _)
            refine sd_iconst hC dX10_deepestNow_55 ⟨by decide, by decide⟩ (?_ : Sd X 56 [(0, 20), (1, 0), (2, 0), (3, 0)] [0, 0, 20] _)
            refine sd_iadd hC dX10_deepestNow_56 (?_ : Sd X 57 [(0, 20), (1, 0), (2, 0), (3, 0)] [0, 20] _)
            refine sd_inv0 (τ := []) (τr := [0]) (ci := 10) (q := (RX10, TX10, 45)) hC WG (M_X10_isBorne _) rfl rfl rfl rfl  rfl rfl wl_7_114 wl_7_116 wp_92 wl_1_10 wl_7_117 hd_X10_isBorne (by rw [e3]; decide) (by decide) dX10_deepestNow_57 (?_ : Sd X 60 [(0, 20), (1, 0), (2, 0), (3, 0)] [0] _)
            refine sd_if_eq (tgt := 67) hC dX10_deepestNow_60 rfl (?_ : Sd X 67 [(0, 20), (1, 0), (2, 0), (3, 0)] [] _) (?_ : Sd X 63 [(0, 20), (1, 0), (2, 0), (3, 0)] [] _)
            · exact Sd.weak (by decide) (S_67 k15 h15 k23 h23)
            · exact Sd.weak (by decide) (S_63 k15 h15 k23 h23)
  have S_15 : Sd X 15 [(0, 20), (1, 0), (2, 0)] [] (L_X10_deepestNow_15 Q) := by
    unfold L_X10_deepestNow_15
    refine Sd.loop (fun k15 h15 => ?_)
    refine sd_iload_n hC dX10_deepestNow_15 rfl (by decide) (?_ : Sd X 16 [(0, 20), (1, 0), (2, 0)] [0] _)
    refine sd_if_eq (tgt := 90) hC dX10_deepestNow_16 rfl (?_ : Sd X 90 [(0, 20), (1, 0), (2, 0)] [] _) (?_ : Sd X 19 [(0, 20), (1, 0), (2, 0)] [] _)
    · refine sd_iload_n hC dX10_deepestNow_90 rfl (by decide) (?_ : Sd X 91 [(0, 20), (1, 0), (2, 0)] [0] _)
      exact sd_ireturn hC hT dX10_deepestNow_91
    · refine sd_iconst hC dX10_deepestNow_19 ⟨by decide, by decide⟩ (?_ : Sd X 20 [(0, 20), (1, 0), (2, 0)] [0] _)
      refine sd_istore_n (Γ' := [(0, 20), (1, 0), (2, 0)]) hC dX10_deepestNow_20 rfl (by rw [e2]; decide) (by decide) (?_ : Sd X 21 [(0, 20), (1, 0), (2, 0)] [] _)
      refine sd_iconst hC dX10_deepestNow_21 ⟨by decide, by decide⟩ (?_ : Sd X 22 [(0, 20), (1, 0), (2, 0)] [0] _)
      refine sd_istore_n (Γ' := [(0, 20), (1, 0), (2, 0), (3, 0)]) hC dX10_deepestNow_22 rfl (by rw [e2]; decide) (by decide) (?_ : Sd X 23 [(0, 20), (1, 0), (2, 0), (3, 0)] [] _)
      exact Sd.weak (by decide) (S_23 k15 h15)
  refine (?_ : Sd X 0 [(0, 20)] [] (E_X10_deepestNow Q))
  unfold E_X10_deepestNow
  refine sd_aload_n hC 20 dX10_deepestNow_0 rfl (by decide) (by decide) (?_ : Sd X 1 [(0, 20)] [20] _)
  refine sd_iconst hC dX10_deepestNow_1 ⟨by decide, by decide⟩ (?_ : Sd X 2 [(0, 20)] [0, 20] _)
  refine sd_inv0 (τ := []) (τr := [0]) (ci := 10) (q := (RX10, TX10, 45)) hC WG (M_X10_isBorne _) rfl rfl rfl rfl  rfl rfl wl_7_114 wl_7_116 wp_92 wl_1_10 wl_7_117 hd_X10_isBorne (by rw [e3]; decide) (by decide) dX10_deepestNow_2 (?_ : Sd X 5 [(0, 20)] [0] _)
  refine sd_if_ne (tgt := 11) hC dX10_deepestNow_5 rfl (?_ : Sd X 11 [(0, 20)] [] _) (?_ : Sd X 8 [(0, 20)] [] _)
  · refine sd_iconst hC dX10_deepestNow_11 ⟨by decide, by decide⟩ (?_ : Sd X 12 [(0, 20)] [0] _)
    refine sd_istore_n (Γ' := [(0, 20), (1, 0)]) hC dX10_deepestNow_12 rfl (by rw [e2]; decide) (by decide) (?_ : Sd X 13 [(0, 20), (1, 0)] [] _)
    refine sd_iconst hC dX10_deepestNow_13 ⟨by decide, by decide⟩ (?_ : Sd X 14 [(0, 20), (1, 0)] [0] _)
    refine sd_istore_n (Γ' := [(0, 20), (1, 0), (2, 0)]) hC dX10_deepestNow_14 rfl (by rw [e2]; decide) (by decide) (?_ : Sd X 15 [(0, 20), (1, 0), (2, 0)] [] _)
    exact Sd.weak (by decide) (S_15)
  · refine sd_bipush hC dX10_deepestNow_8 (by decide) (?_ : Sd X 10 [(0, 20)] [0] _)
    exact sd_ireturn hC hT dX10_deepestNow_10
theorem wl_7_211 : Cond.methodLink RX10 409 yX10_deepestNow ∈ WALL := tb7 (List.mem_of_getElem? (i := 211) rfl) rfl
theorem wl_7_213 : Cond.instanceMethod yX10_deepestNow ∈ WALL := tb7 (List.mem_of_getElem? (i := 213) rfl) rfl
theorem wp_109 : Cond.selects RX10 yX10_deepestNow yX10_deepestNow ∈ WALL := tbS (List.mem_of_getElem? (i := 109) rfl)
theorem wl_7_214 : Cond.code yX10_deepestNow cX10_deepestNow 4 (some .int) ∈ WALL := tb7 (List.mem_of_getElem? (i := 214) rfl) rfl
theorem hd_X10_deepest : yX10_deepest.cls ≠ "java/lang/invoke/MethodHandle" ∧ yX10_deepest.cls ≠ "java/lang/invoke/VarHandle" ∧ (parseMethodDescriptor yX10_deepest.desc).map (fun d => d.parameters.length) = some 1 := by decide +kernel
set_option maxRecDepth 100000 in
set_option maxHeartbeats 4000000 in
theorem M_X10_deepest (l : Launch) : Mt l yX10_deepest (Cond.code yX10_deepest cX10_deepest 2 (some .int) :: WALL) { frames := 5, cells := 0, slots := 0, locals := 113 } [20, 0] (some 0) T_X10_deepest := by
  refine Mt.mk (B := E_X10_deepest) (by decide +kernel) (by decide) (fun _ _ _ hh => hh) ?_
  intro X Q e1 e2 e3 hC hN hT
  subst e1
  have hC : CF X cX10_deepest RX10 WALL := hC
  refine (?_ : Sd X 0 [(0, 20), (1, 0)] [] (E_X10_deepest Q))
  unfold E_X10_deepest
  refine sd_aload_n hC 20 dX10_deepest_0 rfl (by decide) (by decide) (?_ : Sd X 1 [(0, 20), (1, 0)] [20] _)
  refine sd_iconst hC dX10_deepest_1 ⟨by decide, by decide⟩ (?_ : Sd X 2 [(0, 20), (1, 0)] [0, 20] _)
  refine sd_put hC (ci := 10) (j := 0) (C := RX10) (T := TX10) (N := 45) tyX10 tyX10_ok nmX10 rfl rfl (by decide) in_X10 rfl rfl wl_5_164 dX10_deepest_2 (?_ : Sd X 5 [(0, 20), (1, 0)] [] _)
  refine sd_aload_n hC 20 dX10_deepest_5 rfl (by decide) (by decide) (?_ : Sd X 6 [(0, 20), (1, 0)] [20] _)
  refine sd_iload_n hC dX10_deepest_6 rfl (by decide) (?_ : Sd X 7 [(0, 20), (1, 0)] [0, 20] _)
  refine sd_inv0 (τ := []) (τr := [0]) (ci := 10) (q := (RX10, TX10, 45)) hC WG (M_X10_isGood _) rfl rfl rfl rfl  rfl rfl wl_7_195 wl_7_197 wp_107 wl_1_10 wl_7_198 hd_X10_isGood (by rw [e3]; decide) (by decide) dX10_deepest_7 (?_ : Sd X 10 [(0, 20), (1, 0)] [0] _)
  refine sd_if_ne (tgt := 19) hC dX10_deepest_10 rfl (?_ : Sd X 19 [(0, 20), (1, 0)] [] _) (?_ : Sd X 13 [(0, 20), (1, 0)] [] _)
  · refine sd_aload_n hC 20 dX10_deepest_19 rfl (by decide) (by decide) (?_ : Sd X 20 [(0, 20), (1, 0)] [20] _)
    refine sd_iload_n hC dX10_deepest_20 rfl (by decide) (?_ : Sd X 21 [(0, 20), (1, 0)] [0, 20] _)
    refine sd_iconst hC dX10_deepest_21 ⟨by decide, by decide⟩ (?_ : Sd X 22 [(0, 20), (1, 0)] [0, 0, 20] _)
    refine sd_inv0v (τ := []) (τr := [0, 0]) (ci := 10) (q := (RX10, TX10, 45)) hC WG (M_X10_takes _) rfl rfl rfl rfl  rfl rfl wl_7_103 wl_7_105 wp_90 wl_1_10 wl_7_106 hd_X10_takes (by rw [e3]; decide) (by decide) dX10_deepest_22 (?_ : Sd X 25 [(0, 20), (1, 0)] [] _)
    refine sd_aload_n hC 20 dX10_deepest_25 rfl (by decide) (by decide) (?_ : Sd X 26 [(0, 20), (1, 0)] [20] _)
    refine sd_aload_n hC 20 dX10_deepest_26 rfl (by decide) (by decide) (?_ : Sd X 27 [(0, 20), (1, 0)] [20, 20] _)
    refine sd_inv0 (τ := [20]) (τr := []) (ci := 10) (q := (RX10, TX10, 45)) hC WG (M_X10_deepestNow _) rfl rfl rfl rfl  rfl rfl wl_7_211 wl_7_213 wp_109 wl_1_10 wl_7_214 hd_X10_deepestNow (by rw [e3]; decide) (by decide) dX10_deepest_27 (?_ : Sd X 30 [(0, 20), (1, 0)] [0, 20] _)
    refine sd_inv0 (τ := []) (τr := [0]) (ci := 10) (q := (RX10, TX10, 45)) hC WG (M_X10_good _) rfl rfl rfl rfl  rfl rfl wl_7_171 wl_7_173 wp_105 wl_1_10 wl_7_174 hd_X10_good (by rw [e3]; decide) (by decide) dX10_deepest_30 (?_ : Sd X 33 [(0, 20), (1, 0)] [0] _)
    exact sd_ireturn hC hT dX10_deepest_33
  · refine sd_aload_n hC 20 dX10_deepest_13 rfl (by decide) (by decide) (?_ : Sd X 14 [(0, 20), (1, 0)] [20] _)
    refine sd_iconst hC dX10_deepest_14 ⟨by decide, by decide⟩ (?_ : Sd X 15 [(0, 20), (1, 0)] [0, 20] _)
    refine sd_inv0 (τ := []) (τr := [0]) (ci := 10) (q := (RX10, TX10, 45)) hC WG (M_X10_refused _) rfl rfl rfl rfl  rfl rfl wl_6_72 wl_6_74 wp_63 wl_1_10 wl_6_75 hd_X10_refused (by rw [e3]; decide) (by decide) dX10_deepest_15 (?_ : Sd X 18 [(0, 20), (1, 0)] [0] _)
    exact sd_ireturn hC hT dX10_deepest_18
theorem hd_X10_deepestCut : yX10_deepestCut.cls ≠ "java/lang/invoke/MethodHandle" ∧ yX10_deepestCut.cls ≠ "java/lang/invoke/VarHandle" ∧ (parseMethodDescriptor yX10_deepestCut.desc).map (fun d => d.parameters.length) = some 1 := by decide +kernel
set_option maxRecDepth 100000 in
set_option maxHeartbeats 4000000 in
theorem M_X10_deepestCut (l : Launch) : Mt l yX10_deepestCut (Cond.code yX10_deepestCut cX10_deepestCut 2 (some .int) :: WALL) { frames := 5, cells := 0, slots := 0, locals := 113 } [20, 0] (some 0) T_X10_deepestCut := by
  refine Mt.mk (B := E_X10_deepestCut) (by decide +kernel) (by decide) (fun _ _ _ hh => hh) ?_
  intro X Q e1 e2 e3 hC hN hT
  subst e1
  have hC : CF X cX10_deepestCut RX10 WALL := hC
  refine (?_ : Sd X 0 [(0, 20), (1, 0)] [] (E_X10_deepestCut Q))
  unfold E_X10_deepestCut
  refine sd_aload_n hC 20 dX10_deepestCut_0 rfl (by decide) (by decide) (?_ : Sd X 1 [(0, 20), (1, 0)] [20] _)
  refine sd_iconst hC dX10_deepestCut_1 ⟨by decide, by decide⟩ (?_ : Sd X 2 [(0, 20), (1, 0)] [0, 20] _)
  refine sd_put hC (ci := 10) (j := 0) (C := RX10) (T := TX10) (N := 45) tyX10 tyX10_ok nmX10 rfl rfl (by decide) in_X10 rfl rfl wl_5_164 dX10_deepestCut_2 (?_ : Sd X 5 [(0, 20), (1, 0)] [] _)
  refine sd_aload_n hC 20 dX10_deepestCut_5 rfl (by decide) (by decide) (?_ : Sd X 6 [(0, 20), (1, 0)] [20] _)
  refine sd_iload_n hC dX10_deepestCut_6 rfl (by decide) (?_ : Sd X 7 [(0, 20), (1, 0)] [0, 20] _)
  refine sd_inv0 (τ := []) (τr := [0]) (ci := 10) (q := (RX10, TX10, 45)) hC WG (M_X10_isGood _) rfl rfl rfl rfl  rfl rfl wl_7_195 wl_7_197 wp_107 wl_1_10 wl_7_198 hd_X10_isGood (by rw [e3]; decide) (by decide) dX10_deepestCut_7 (?_ : Sd X 10 [(0, 20), (1, 0)] [0] _)
  refine sd_if_ne (tgt := 19) hC dX10_deepestCut_10 rfl (?_ : Sd X 19 [(0, 20), (1, 0)] [] _) (?_ : Sd X 13 [(0, 20), (1, 0)] [] _)
  · refine sd_aload_n hC 20 dX10_deepestCut_19 rfl (by decide) (by decide) (?_ : Sd X 20 [(0, 20), (1, 0)] [20] _)
    refine sd_iload_n hC dX10_deepestCut_20 rfl (by decide) (?_ : Sd X 21 [(0, 20), (1, 0)] [0, 20] _)
    refine sd_inv0 (τ := []) (τr := [0]) (ci := 10) (q := (RX10, TX10, 45)) hC WG (M_X10_canCut _) rfl rfl rfl rfl  rfl rfl wl_7_99 wl_7_101 wp_89 wl_1_10 wl_7_102 hd_X10_canCut (by rw [e3]; decide) (by decide) dX10_deepestCut_21 (?_ : Sd X 24 [(0, 20), (1, 0)] [0] _)
    refine sd_if_ne (tgt := 33) hC dX10_deepestCut_24 rfl (?_ : Sd X 33 [(0, 20), (1, 0)] [] _) (?_ : Sd X 27 [(0, 20), (1, 0)] [] _)
    · refine sd_aload_n hC 20 dX10_deepestCut_33 rfl (by decide) (by decide) (?_ : Sd X 34 [(0, 20), (1, 0)] [20] _)
      refine sd_iload_n hC dX10_deepestCut_34 rfl (by decide) (?_ : Sd X 35 [(0, 20), (1, 0)] [0, 20] _)
      refine sd_iconst hC dX10_deepestCut_35 ⟨by decide, by decide⟩ (?_ : Sd X 36 [(0, 20), (1, 0)] [0, 0, 20] _)
      refine sd_inv0v (τ := []) (τr := [0, 0]) (ci := 10) (q := (RX10, TX10, 45)) hC WG (M_X10_takes _) rfl rfl rfl rfl  rfl rfl wl_7_103 wl_7_105 wp_90 wl_1_10 wl_7_106 hd_X10_takes (by rw [e3]; decide) (by decide) dX10_deepestCut_36 (?_ : Sd X 39 [(0, 20), (1, 0)] [] _)
      refine sd_aload_n hC 20 dX10_deepestCut_39 rfl (by decide) (by decide) (?_ : Sd X 40 [(0, 20), (1, 0)] [20] _)
      refine sd_aload_n hC 20 dX10_deepestCut_40 rfl (by decide) (by decide) (?_ : Sd X 41 [(0, 20), (1, 0)] [20, 20] _)
      refine sd_inv0 (τ := [20]) (τr := []) (ci := 10) (q := (RX10, TX10, 45)) hC WG (M_X10_deepestNow _) rfl rfl rfl rfl  rfl rfl wl_7_211 wl_7_213 wp_109 wl_1_10 wl_7_214 hd_X10_deepestNow (by rw [e3]; decide) (by decide) dX10_deepestCut_41 (?_ : Sd X 44 [(0, 20), (1, 0)] [0, 20] _)
      refine sd_inv0 (τ := []) (τr := [0]) (ci := 10) (q := (RX10, TX10, 45)) hC WG (M_X10_good _) rfl rfl rfl rfl  rfl rfl wl_7_171 wl_7_173 wp_105 wl_1_10 wl_7_174 hd_X10_good (by rw [e3]; decide) (by decide) dX10_deepestCut_44 (?_ : Sd X 47 [(0, 20), (1, 0)] [0] _)
      exact sd_ireturn hC hT dX10_deepestCut_47
    · refine sd_aload_n hC 20 dX10_deepestCut_27 rfl (by decide) (by decide) (?_ : Sd X 28 [(0, 20), (1, 0)] [20] _)
      refine sd_iconst hC dX10_deepestCut_28 ⟨by decide, by decide⟩ (?_ : Sd X 29 [(0, 20), (1, 0)] [0, 20] _)
      refine sd_inv0 (τ := []) (τr := [0]) (ci := 10) (q := (RX10, TX10, 45)) hC WG (M_X10_refused _) rfl rfl rfl rfl  rfl rfl wl_6_72 wl_6_74 wp_63 wl_1_10 wl_6_75 hd_X10_refused (by rw [e3]; decide) (by decide) dX10_deepestCut_29 (?_ : Sd X 32 [(0, 20), (1, 0)] [0] _)
      exact sd_ireturn hC hT dX10_deepestCut_32
  · refine sd_aload_n hC 20 dX10_deepestCut_13 rfl (by decide) (by decide) (?_ : Sd X 14 [(0, 20), (1, 0)] [20] _)
    refine sd_iconst hC dX10_deepestCut_14 ⟨by decide, by decide⟩ (?_ : Sd X 15 [(0, 20), (1, 0)] [0, 20] _)
    refine sd_inv0 (τ := []) (τr := [0]) (ci := 10) (q := (RX10, TX10, 45)) hC WG (M_X10_refused _) rfl rfl rfl rfl  rfl rfl wl_6_72 wl_6_74 wp_63 wl_1_10 wl_6_75 hd_X10_refused (by rw [e3]; decide) (by decide) dX10_deepestCut_15 (?_ : Sd X 18 [(0, 20), (1, 0)] [0] _)
    exact sd_ireturn hC hT dX10_deepestCut_18
theorem hd_X10_sets : yX10_sets.cls ≠ "java/lang/invoke/MethodHandle" ∧ yX10_sets.cls ≠ "java/lang/invoke/VarHandle" ∧ (parseMethodDescriptor yX10_sets.desc).map (fun d => d.parameters.length) = some 8 := by decide +kernel
set_option maxRecDepth 100000 in
set_option maxHeartbeats 4000000 in
theorem M_X10_sets (l : Launch) : Mt l yX10_sets (Cond.code yX10_sets cX10_sets 9 none :: WALL) { frames := 0, cells := 0, slots := 0, locals := 0 } [100, 0, 0, 0, 0, 0, 0, 0] none T_X10_sets := by
  refine Mt.mk (B := E_X10_sets) (by decide +kernel) (by decide) (fun _ _ _ hh => hh) ?_
  intro X Q e1 e2 e3 hC hN hT
  subst e1
  have hC : CF X cX10_sets RX10 WALL := hC
  refine (?_ : Sd X 0 [(0, 100), (1, 0), (2, 0), (3, 0), (4, 0), (5, 0), (6, 0), (7, 0)] [] (E_X10_sets Q))
  unfold E_X10_sets
  refine sd_bipush hC dX10_sets_0 (by decide) (?_ : Sd X 2 [(0, 100), (1, 0), (2, 0), (3, 0), (4, 0), (5, 0), (6, 0), (7, 0)] [0] _)
  refine sd_iload_n hC dX10_sets_2 rfl (by decide) (?_ : Sd X 3 [(0, 100), (1, 0), (2, 0), (3, 0), (4, 0), (5, 0), (6, 0), (7, 0)] [0, 0] _)
  refine sd_imul hC dX10_sets_3 (?_ : Sd X 4 [(0, 100), (1, 0), (2, 0), (3, 0), (4, 0), (5, 0), (6, 0), (7, 0)] [0] _)
  refine sd_istore (Γ' := [(0, 100), (1, 0), (2, 0), (3, 0), (4, 0), (5, 0), (6, 0), (7, 0), (8, 0)]) hC dX10_sets_4 (by rw [e2]; decide) (by decide) (?_ : Sd X 6 [(0, 100), (1, 0), (2, 0), (3, 0), (4, 0), (5, 0), (6, 0), (7, 0), (8, 0)] [] _)
  refine sd_aload_n hC 100 dX10_sets_6 rfl (by decide) (by decide) (?_ : Sd X 7 [(0, 100), (1, 0), (2, 0), (3, 0), (4, 0), (5, 0), (6, 0), (7, 0), (8, 0)] [100] _)
  refine sd_iload hC dX10_sets_7 (by decide) (?_ : Sd X 9 [(0, 100), (1, 0), (2, 0), (3, 0), (4, 0), (5, 0), (6, 0), (7, 0), (8, 0)] [0, 100] _)
  refine sd_iconst hC dX10_sets_9 ⟨by decide, by decide⟩ (?_ : Sd X 10 [(0, 100), (1, 0), (2, 0), (3, 0), (4, 0), (5, 0), (6, 0), (7, 0), (8, 0)] [0, 0, 100] _)
  refine sd_iadd hC dX10_sets_10 (?_ : Sd X 11 [(0, 100), (1, 0), (2, 0), (3, 0), (4, 0), (5, 0), (6, 0), (7, 0), (8, 0)] [0, 100] _)
  refine sd_iload_n hC dX10_sets_11 rfl (by decide) (?_ : Sd X 12 [(0, 100), (1, 0), (2, 0), (3, 0), (4, 0), (5, 0), (6, 0), (7, 0), (8, 0)] [0, 0, 100] _)
  refine sd_iastore hC dX10_sets_12 (?_ : Sd X 13 [(0, 100), (1, 0), (2, 0), (3, 0), (4, 0), (5, 0), (6, 0), (7, 0), (8, 0)] [] _)
  refine sd_aload_n hC 100 dX10_sets_13 rfl (by decide) (by decide) (?_ : Sd X 14 [(0, 100), (1, 0), (2, 0), (3, 0), (4, 0), (5, 0), (6, 0), (7, 0), (8, 0)] [100] _)
  refine sd_iload hC dX10_sets_14 (by decide) (?_ : Sd X 16 [(0, 100), (1, 0), (2, 0), (3, 0), (4, 0), (5, 0), (6, 0), (7, 0), (8, 0)] [0, 100] _)
  refine sd_iconst hC dX10_sets_16 ⟨by decide, by decide⟩ (?_ : Sd X 17 [(0, 100), (1, 0), (2, 0), (3, 0), (4, 0), (5, 0), (6, 0), (7, 0), (8, 0)] [0, 0, 100] _)
  refine sd_iadd hC dX10_sets_17 (?_ : Sd X 18 [(0, 100), (1, 0), (2, 0), (3, 0), (4, 0), (5, 0), (6, 0), (7, 0), (8, 0)] [0, 100] _)
  refine sd_iload_n hC dX10_sets_18 rfl (by decide) (?_ : Sd X 19 [(0, 100), (1, 0), (2, 0), (3, 0), (4, 0), (5, 0), (6, 0), (7, 0), (8, 0)] [0, 0, 100] _)
  refine sd_iastore hC dX10_sets_19 (?_ : Sd X 20 [(0, 100), (1, 0), (2, 0), (3, 0), (4, 0), (5, 0), (6, 0), (7, 0), (8, 0)] [] _)
  refine sd_aload_n hC 100 dX10_sets_20 rfl (by decide) (by decide) (?_ : Sd X 21 [(0, 100), (1, 0), (2, 0), (3, 0), (4, 0), (5, 0), (6, 0), (7, 0), (8, 0)] [100] _)
  refine sd_iload hC dX10_sets_21 (by decide) (?_ : Sd X 23 [(0, 100), (1, 0), (2, 0), (3, 0), (4, 0), (5, 0), (6, 0), (7, 0), (8, 0)] [0, 100] _)
  refine sd_iconst hC dX10_sets_23 ⟨by decide, by decide⟩ (?_ : Sd X 24 [(0, 100), (1, 0), (2, 0), (3, 0), (4, 0), (5, 0), (6, 0), (7, 0), (8, 0)] [0, 0, 100] _)
  refine sd_iadd hC dX10_sets_24 (?_ : Sd X 25 [(0, 100), (1, 0), (2, 0), (3, 0), (4, 0), (5, 0), (6, 0), (7, 0), (8, 0)] [0, 100] _)
  refine sd_iload hC dX10_sets_25 (by decide) (?_ : Sd X 27 [(0, 100), (1, 0), (2, 0), (3, 0), (4, 0), (5, 0), (6, 0), (7, 0), (8, 0)] [0, 0, 100] _)
  refine sd_iastore hC dX10_sets_27 (?_ : Sd X 28 [(0, 100), (1, 0), (2, 0), (3, 0), (4, 0), (5, 0), (6, 0), (7, 0), (8, 0)] [] _)
  refine sd_aload_n hC 100 dX10_sets_28 rfl (by decide) (by decide) (?_ : Sd X 29 [(0, 100), (1, 0), (2, 0), (3, 0), (4, 0), (5, 0), (6, 0), (7, 0), (8, 0)] [100] _)
  refine sd_iload hC dX10_sets_29 (by decide) (?_ : Sd X 31 [(0, 100), (1, 0), (2, 0), (3, 0), (4, 0), (5, 0), (6, 0), (7, 0), (8, 0)] [0, 100] _)
  refine sd_iconst hC dX10_sets_31 ⟨by decide, by decide⟩ (?_ : Sd X 32 [(0, 100), (1, 0), (2, 0), (3, 0), (4, 0), (5, 0), (6, 0), (7, 0), (8, 0)] [0, 0, 100] _)
  refine sd_iadd hC dX10_sets_32 (?_ : Sd X 33 [(0, 100), (1, 0), (2, 0), (3, 0), (4, 0), (5, 0), (6, 0), (7, 0), (8, 0)] [0, 100] _)
  refine sd_iload hC dX10_sets_33 (by decide) (?_ : Sd X 35 [(0, 100), (1, 0), (2, 0), (3, 0), (4, 0), (5, 0), (6, 0), (7, 0), (8, 0)] [0, 0, 100] _)
  refine sd_iastore hC dX10_sets_35 (?_ : Sd X 36 [(0, 100), (1, 0), (2, 0), (3, 0), (4, 0), (5, 0), (6, 0), (7, 0), (8, 0)] [] _)
  refine sd_aload_n hC 100 dX10_sets_36 rfl (by decide) (by decide) (?_ : Sd X 37 [(0, 100), (1, 0), (2, 0), (3, 0), (4, 0), (5, 0), (6, 0), (7, 0), (8, 0)] [100] _)
  refine sd_iload hC dX10_sets_37 (by decide) (?_ : Sd X 39 [(0, 100), (1, 0), (2, 0), (3, 0), (4, 0), (5, 0), (6, 0), (7, 0), (8, 0)] [0, 100] _)
  refine sd_iconst hC dX10_sets_39 ⟨by decide, by decide⟩ (?_ : Sd X 40 [(0, 100), (1, 0), (2, 0), (3, 0), (4, 0), (5, 0), (6, 0), (7, 0), (8, 0)] [0, 0, 100] _)
  refine sd_iadd hC dX10_sets_40 (?_ : Sd X 41 [(0, 100), (1, 0), (2, 0), (3, 0), (4, 0), (5, 0), (6, 0), (7, 0), (8, 0)] [0, 100] _)
  refine sd_iload hC dX10_sets_41 (by decide) (?_ : Sd X 43 [(0, 100), (1, 0), (2, 0), (3, 0), (4, 0), (5, 0), (6, 0), (7, 0), (8, 0)] [0, 0, 100] _)
  refine sd_iastore hC dX10_sets_43 (?_ : Sd X 44 [(0, 100), (1, 0), (2, 0), (3, 0), (4, 0), (5, 0), (6, 0), (7, 0), (8, 0)] [] _)
  refine sd_aload_n hC 100 dX10_sets_44 rfl (by decide) (by decide) (?_ : Sd X 45 [(0, 100), (1, 0), (2, 0), (3, 0), (4, 0), (5, 0), (6, 0), (7, 0), (8, 0)] [100] _)
  refine sd_iload hC dX10_sets_45 (by decide) (?_ : Sd X 47 [(0, 100), (1, 0), (2, 0), (3, 0), (4, 0), (5, 0), (6, 0), (7, 0), (8, 0)] [0, 100] _)
  refine sd_iconst hC dX10_sets_47 ⟨by decide, by decide⟩ (?_ : Sd X 48 [(0, 100), (1, 0), (2, 0), (3, 0), (4, 0), (5, 0), (6, 0), (7, 0), (8, 0)] [0, 0, 100] _)
  refine sd_iadd hC dX10_sets_48 (?_ : Sd X 49 [(0, 100), (1, 0), (2, 0), (3, 0), (4, 0), (5, 0), (6, 0), (7, 0), (8, 0)] [0, 100] _)
  refine sd_iload hC dX10_sets_49 (by decide) (?_ : Sd X 51 [(0, 100), (1, 0), (2, 0), (3, 0), (4, 0), (5, 0), (6, 0), (7, 0), (8, 0)] [0, 0, 100] _)
  refine sd_iastore hC dX10_sets_51 (?_ : Sd X 52 [(0, 100), (1, 0), (2, 0), (3, 0), (4, 0), (5, 0), (6, 0), (7, 0), (8, 0)] [] _)
  refine sd_aload_n hC 100 dX10_sets_52 rfl (by decide) (by decide) (?_ : Sd X 53 [(0, 100), (1, 0), (2, 0), (3, 0), (4, 0), (5, 0), (6, 0), (7, 0), (8, 0)] [100] _)
  refine sd_iload hC dX10_sets_53 (by decide) (?_ : Sd X 55 [(0, 100), (1, 0), (2, 0), (3, 0), (4, 0), (5, 0), (6, 0), (7, 0), (8, 0)] [0, 100] _)
  refine sd_bipush hC dX10_sets_55 (by decide) (?_ : Sd X 57 [(0, 100), (1, 0), (2, 0), (3, 0), (4, 0), (5, 0), (6, 0), (7, 0), (8, 0)] [0, 0, 100] _)
  refine sd_iadd hC dX10_sets_57 (?_ : Sd X 58 [(0, 100), (1, 0), (2, 0), (3, 0), (4, 0), (5, 0), (6, 0), (7, 0), (8, 0)] [0, 100] _)
  refine sd_iconst hC dX10_sets_58 ⟨by decide, by decide⟩ (?_ : Sd X 59 [(0, 100), (1, 0), (2, 0), (3, 0), (4, 0), (5, 0), (6, 0), (7, 0), (8, 0)] [0, 0, 100] _)
  refine sd_iastore hC dX10_sets_59 (?_ : Sd X 60 [(0, 100), (1, 0), (2, 0), (3, 0), (4, 0), (5, 0), (6, 0), (7, 0), (8, 0)] [] _)
  exact sd_return hC hT dX10_sets_60
theorem wl_7_51 : Cond.methodLink RX10 245 yX10_sets ∈ WALL := tb7 (List.mem_of_getElem? (i := 51) rfl) rfl
theorem wl_7_52 : Cond.static yX10_sets ∈ WALL := tb7 (List.mem_of_getElem? (i := 52) rfl) rfl
theorem wl_7_53 : Cond.code yX10_sets cX10_sets 9 none ∈ WALL := tb7 (List.mem_of_getElem? (i := 53) rfl) rfl
theorem hd_X10_dig : yX10_dig.cls ≠ "java/lang/invoke/MethodHandle" ∧ yX10_dig.cls ≠ "java/lang/invoke/VarHandle" ∧ (parseMethodDescriptor yX10_dig.desc).map (fun d => d.parameters.length) = some 6 := by decide +kernel
set_option maxRecDepth 100000 in
set_option maxHeartbeats 4000000 in
theorem M_X10_dig (l : Launch) : Mt l yX10_dig (Cond.code yX10_dig cX10_dig 7 (some .int) :: WALL) { frames := 8, cells := 0, slots := 0, locals := 195 } [20, 0, 0, 0, 0, 0, 0] (some 0) T_X10_dig := by
  refine Mt.mk (B := E_X10_dig) (by decide +kernel) (by decide) (fun _ _ _ hh => hh) ?_
  intro X Q e1 e2 e3 hC hN hT
  subst e1
  have hC : CF X cX10_dig RX10 WALL := hC
  have S_39 : Sd X 39 [(0, 20), (1, 0), (2, 0), (3, 0), (4, 0), (5, 0), (6, 0)] [] (B_X10_dig_39 Q) := by
    unfold B_X10_dig_39
    refine sd_aload_n hC 20 dX10_dig_39 rfl (by decide) (by decide) (?_ : Sd X 40 [(0, 20), (1, 0), (2, 0), (3, 0), (4, 0), (5, 0), (6, 0)] [20] _)
    refine sd_iconst hC dX10_dig_40 ⟨by decide, by decide⟩ (?_ : Sd X 41 [(0, 20), (1, 0), (2, 0), (3, 0), (4, 0), (5, 0), (6, 0)] [0, 20] _)
    refine sd_inv0 (τ := []) (τr := [0]) (ci := 10) (q := (RX10, TX10, 45)) hC WG (M_X10_refused _) rfl rfl rfl rfl  rfl rfl wl_6_72 wl_6_74 wp_63 wl_1_10 wl_6_75 hd_X10_refused (by rw [e3]; decide) (by decide) dX10_dig_41 (?_ : Sd X 44 [(0, 20), (1, 0), (2, 0), (3, 0), (4, 0), (5, 0), (6, 0)] [0] _)
    exact sd_ireturn hC hT dX10_dig_44
  have S_82 : Sd X 82 [(0, 20), (1, 0), (2, 0), (3, 0), (4, 0), (5, 0), (6, 0)] [] (B_X10_dig_82 Q) := by
    unfold B_X10_dig_82
    refine sd_aload_n hC 20 dX10_dig_82 rfl (by decide) (by decide) (?_ : Sd X 83 [(0, 20), (1, 0), (2, 0), (3, 0), (4, 0), (5, 0), (6, 0)] [20] _)
    refine sd_iconst hC dX10_dig_83 ⟨by decide, by decide⟩ (?_ : Sd X 84 [(0, 20), (1, 0), (2, 0), (3, 0), (4, 0), (5, 0), (6, 0)] [0, 20] _)
    refine sd_inv0 (τ := []) (τr := [0]) (ci := 10) (q := (RX10, TX10, 45)) hC WG (M_X10_refused _) rfl rfl rfl rfl  rfl rfl wl_6_72 wl_6_74 wp_63 wl_1_10 wl_6_75 hd_X10_refused (by rw [e3]; decide) (by decide) dX10_dig_84 (?_ : Sd X 87 [(0, 20), (1, 0), (2, 0), (3, 0), (4, 0), (5, 0), (6, 0)] [0] _)
    exact sd_ireturn hC hT dX10_dig_87
  refine (?_ : Sd X 0 [(0, 20), (1, 0), (2, 0), (3, 0), (4, 0), (5, 0), (6, 0)] [] (E_X10_dig Q))
  unfold E_X10_dig
  refine sd_aload_n hC 20 dX10_dig_0 rfl (by decide) (by decide) (?_ : Sd X 1 [(0, 20), (1, 0), (2, 0), (3, 0), (4, 0), (5, 0), (6, 0)] [20] _)
  refine sd_iconst hC dX10_dig_1 ⟨by decide, by decide⟩ (?_ : Sd X 2 [(0, 20), (1, 0), (2, 0), (3, 0), (4, 0), (5, 0), (6, 0)] [0, 20] _)
  refine sd_put hC (ci := 10) (j := 0) (C := RX10) (T := TX10) (N := 45) tyX10 tyX10_ok nmX10 rfl rfl (by decide) in_X10 rfl rfl wl_5_164 dX10_dig_2 (?_ : Sd X 5 [(0, 20), (1, 0), (2, 0), (3, 0), (4, 0), (5, 0), (6, 0)] [] _)
  refine sd_aload_n hC 20 dX10_dig_5 rfl (by decide) (by decide) (?_ : Sd X 6 [(0, 20), (1, 0), (2, 0), (3, 0), (4, 0), (5, 0), (6, 0)] [20] _)
  refine sd_get hC (ci := 10) (j := 3) (C := RX10) (T := TX10) (N := 45) rfl rfl (by decide) in_X10 wl_5_167 dX10_dig_6 (?_ : Sd X 9 [(0, 20), (1, 0), (2, 0), (3, 0), (4, 0), (5, 0), (6, 0)] [19] _)
  refine sd_ifnull (tgt := 39) hC (by decide) dX10_dig_9 rfl (?_ : Sd X 39 [(0, 20), (1, 0), (2, 0), (3, 0), (4, 0), (5, 0), (6, 0)] [] _) (?_ : Sd X 12 [(0, 20), (1, 0), (2, 0), (3, 0), (4, 0), (5, 0), (6, 0)] [] _)
  · exact Sd.weak (by decide) (S_39)
  · refine sd_iload_n hC dX10_dig_12 rfl (by decide) (?_ : Sd X 13 [(0, 20), (1, 0), (2, 0), (3, 0), (4, 0), (5, 0), (6, 0)] [0] _)
    refine sd_iconst hC dX10_dig_13 ⟨by decide, by decide⟩ (?_ : Sd X 14 [(0, 20), (1, 0), (2, 0), (3, 0), (4, 0), (5, 0), (6, 0)] [0, 0] _)
    refine sd_aload_n hC 20 dX10_dig_14 rfl (by decide) (by decide) (?_ : Sd X 15 [(0, 20), (1, 0), (2, 0), (3, 0), (4, 0), (5, 0), (6, 0)] [20, 0, 0] _)
    refine sd_get hC (ci := 10) (j := 3) (C := RX10) (T := TX10) (N := 45) rfl rfl (by decide) in_X10 wl_5_167 dX10_dig_15 (?_ : Sd X 18 [(0, 20), (1, 0), (2, 0), (3, 0), (4, 0), (5, 0), (6, 0)] [19, 0, 0] _)
    refine sd_getN hC (ci := 9) (j := 0) (C := RX9) (T := TX9) (N := 28) (host := "NarrowRingsModel") rfl rfl (by decide) in_X9 (by decide) dX10_dig_18 (?_ : Sd X 21 [(0, 20), (1, 0), (2, 0), (3, 0), (4, 0), (5, 0), (6, 0)] [0, 0, 0] _)
    refine sd_iconst hC dX10_dig_21 ⟨by decide, by decide⟩ (?_ : Sd X 22 [(0, 20), (1, 0), (2, 0), (3, 0), (4, 0), (5, 0), (6, 0)] [0, 0, 0, 0] _)
    refine sd_isub hC dX10_dig_22 (?_ : Sd X 23 [(0, 20), (1, 0), (2, 0), (3, 0), (4, 0), (5, 0), (6, 0)] [0, 0, 0] _)
    refine sd_invs (τ := []) (τs := [0, 0, 0]) hC false "" WG (M_X10_in _) rfl rfl rfl rfl wl_6_238 wl_6_239 wl_1_10 wl_7_0 hd_X10_in (by rw [e3]; decide) (by decide) dX10_dig_23 (?_ : Sd X 26 [(0, 20), (1, 0), (2, 0), (3, 0), (4, 0), (5, 0), (6, 0)] [0] _)
    refine sd_if_eq (tgt := 39) hC dX10_dig_26 rfl (?_ : Sd X 39 [(0, 20), (1, 0), (2, 0), (3, 0), (4, 0), (5, 0), (6, 0)] [] _) (?_ : Sd X 29 [(0, 20), (1, 0), (2, 0), (3, 0), (4, 0), (5, 0), (6, 0)] [] _)
    · exact Sd.weak (by decide) (S_39)
    · refine sd_iload_n hC dX10_dig_29 rfl (by decide) (?_ : Sd X 30 [(0, 20), (1, 0), (2, 0), (3, 0), (4, 0), (5, 0), (6, 0)] [0] _)
      refine sd_iconst hC dX10_dig_30 ⟨by decide, by decide⟩ (?_ : Sd X 31 [(0, 20), (1, 0), (2, 0), (3, 0), (4, 0), (5, 0), (6, 0)] [0, 0] _)
      refine sd_bipush hC dX10_dig_31 (by decide) (?_ : Sd X 33 [(0, 20), (1, 0), (2, 0), (3, 0), (4, 0), (5, 0), (6, 0)] [0, 0, 0] _)
      refine sd_invs (τ := []) (τs := [0, 0, 0]) hC false "" WG (M_X10_in _) rfl rfl rfl rfl wl_6_238 wl_6_239 wl_1_10 wl_7_0 hd_X10_in (by rw [e3]; decide) (by decide) dX10_dig_33 (?_ : Sd X 36 [(0, 20), (1, 0), (2, 0), (3, 0), (4, 0), (5, 0), (6, 0)] [0] _)
      refine sd_if_ne (tgt := 45) hC dX10_dig_36 rfl (?_ : Sd X 45 [(0, 20), (1, 0), (2, 0), (3, 0), (4, 0), (5, 0), (6, 0)] [] _) (?_ : Sd X 39 [(0, 20), (1, 0), (2, 0), (3, 0), (4, 0), (5, 0), (6, 0)] [] _)
      · refine sd_iload_n hC dX10_dig_45 rfl (by decide) (?_ : Sd X 46 [(0, 20), (1, 0), (2, 0), (3, 0), (4, 0), (5, 0), (6, 0)] [0] _)
        refine sd_invs (τ := []) (τs := [0]) hC false "" WG (M_X10_isSize _) rfl rfl rfl rfl wl_8_119 wl_8_120 wl_1_10 wl_8_121 hd_X10_isSize (by rw [e3]; decide) (by decide) dX10_dig_46 (?_ : Sd X 49 [(0, 20), (1, 0), (2, 0), (3, 0), (4, 0), (5, 0), (6, 0)] [0] _)
        refine sd_if_eq (tgt := 82) hC dX10_dig_49 rfl (?_ : Sd X 82 [(0, 20), (1, 0), (2, 0), (3, 0), (4, 0), (5, 0), (6, 0)] [] _) (?_ : Sd X 52 [(0, 20), (1, 0), (2, 0), (3, 0), (4, 0), (5, 0), (6, 0)] [] _)
        · exact Sd.weak (by decide) (S_82)
        · refine sd_iload hC dX10_dig_52 (by decide) (?_ : Sd X 54 [(0, 20), (1, 0), (2, 0), (3, 0), (4, 0), (5, 0), (6, 0)] [0] _)
          refine sd_invs (τ := []) (τs := [0]) hC false "" WG (M_X10_isSize _) rfl rfl rfl rfl wl_8_119 wl_8_120 wl_1_10 wl_8_121 hd_X10_isSize (by rw [e3]; decide) (by decide) dX10_dig_54 (?_ : Sd X 57 [(0, 20), (1, 0), (2, 0), (3, 0), (4, 0), (5, 0), (6, 0)] [0] _)
          refine sd_if_eq (tgt := 82) hC dX10_dig_57 rfl (?_ : Sd X 82 [(0, 20), (1, 0), (2, 0), (3, 0), (4, 0), (5, 0), (6, 0)] [] _) (?_ : Sd X 60 [(0, 20), (1, 0), (2, 0), (3, 0), (4, 0), (5, 0), (6, 0)] [] _)
          · exact Sd.weak (by decide) (S_82)
          · refine sd_iload hC dX10_dig_60 (by decide) (?_ : Sd X 62 [(0, 20), (1, 0), (2, 0), (3, 0), (4, 0), (5, 0), (6, 0)] [0] _)
            refine sd_iconst hC dX10_dig_62 ⟨by decide, by decide⟩ (?_ : Sd X 63 [(0, 20), (1, 0), (2, 0), (3, 0), (4, 0), (5, 0), (6, 0)] [0, 0] _)
            refine sd_bipush hC dX10_dig_63 (by decide) (?_ : Sd X 65 [(0, 20), (1, 0), (2, 0), (3, 0), (4, 0), (5, 0), (6, 0)] [0, 0, 0] _)
            refine sd_invs (τ := []) (τs := [0, 0, 0]) hC false "" WG (M_X10_in _) rfl rfl rfl rfl wl_6_238 wl_6_239 wl_1_10 wl_7_0 hd_X10_in (by rw [e3]; decide) (by decide) dX10_dig_65 (?_ : Sd X 68 [(0, 20), (1, 0), (2, 0), (3, 0), (4, 0), (5, 0), (6, 0)] [0] _)
            refine sd_if_eq (tgt := 82) hC dX10_dig_68 rfl (?_ : Sd X 82 [(0, 20), (1, 0), (2, 0), (3, 0), (4, 0), (5, 0), (6, 0)] [] _) (?_ : Sd X 71 [(0, 20), (1, 0), (2, 0), (3, 0), (4, 0), (5, 0), (6, 0)] [] _)
            · exact Sd.weak (by decide) (S_82)
            · refine sd_iload hC dX10_dig_71 (by decide) (?_ : Sd X 73 [(0, 20), (1, 0), (2, 0), (3, 0), (4, 0), (5, 0), (6, 0)] [0] _)
              refine sd_iconst hC dX10_dig_73 ⟨by decide, by decide⟩ (?_ : Sd X 74 [(0, 20), (1, 0), (2, 0), (3, 0), (4, 0), (5, 0), (6, 0)] [0, 0] _)
              refine sd_bipush hC dX10_dig_74 (by decide) (?_ : Sd X 76 [(0, 20), (1, 0), (2, 0), (3, 0), (4, 0), (5, 0), (6, 0)] [0, 0, 0] _)
              refine sd_invs (τ := []) (τs := [0, 0, 0]) hC false "" WG (M_X10_in _) rfl rfl rfl rfl wl_6_238 wl_6_239 wl_1_10 wl_7_0 hd_X10_in (by rw [e3]; decide) (by decide) dX10_dig_76 (?_ : Sd X 79 [(0, 20), (1, 0), (2, 0), (3, 0), (4, 0), (5, 0), (6, 0)] [0] _)
              refine sd_if_ne (tgt := 88) hC dX10_dig_79 rfl (?_ : Sd X 88 [(0, 20), (1, 0), (2, 0), (3, 0), (4, 0), (5, 0), (6, 0)] [] _) (?_ : Sd X 82 [(0, 20), (1, 0), (2, 0), (3, 0), (4, 0), (5, 0), (6, 0)] [] _)
              · refine sd_aload_n hC 20 dX10_dig_88 rfl (by decide) (by decide) (?_ : Sd X 89 [(0, 20), (1, 0), (2, 0), (3, 0), (4, 0), (5, 0), (6, 0)] [20] _)
                refine sd_get hC (ci := 10) (j := 17) (C := RX10) (T := TX10) (N := 45) rfl rfl (by decide) in_X10 wl_5_181 dX10_dig_89 (?_ : Sd X 92 [(0, 20), (1, 0), (2, 0), (3, 0), (4, 0), (5, 0), (6, 0)] [0] _)
                refine sd_bipush hC dX10_dig_92 (by decide) (?_ : Sd X 94 [(0, 20), (1, 0), (2, 0), (3, 0), (4, 0), (5, 0), (6, 0)] [0, 0] _)
                refine sd_icmp_ne (tgt := 103) hC dX10_dig_94 rfl (?_ : Sd X 103 [(0, 20), (1, 0), (2, 0), (3, 0), (4, 0), (5, 0), (6, 0)] [] _) (?_ : Sd X 97 [(0, 20), (1, 0), (2, 0), (3, 0), (4, 0), (5, 0), (6, 0)] [] _)
                · refine sd_aload_n hC 20 dX10_dig_103 rfl (by decide) (by decide) (?_ : Sd X 104 [(0, 20), (1, 0), (2, 0), (3, 0), (4, 0), (5, 0), (6, 0)] [20] _)
                  refine sd_inv0v (τ := []) (τr := []) (ci := 10) (q := (RX10, TX10, 45)) hC WG (M_X10_keeps _) rfl rfl rfl rfl  rfl rfl wl_8_170 wl_8_172 wp_130 wl_1_10 wl_8_173 hd_X10_keeps (by rw [e3]; decide) (by decide) dX10_dig_104 (?_ : Sd X 107 [(0, 20), (1, 0), (2, 0), (3, 0), (4, 0), (5, 0), (6, 0)] [] _)
                  refine sd_aload_n hC 20 dX10_dig_107 rfl (by decide) (by decide) (?_ : Sd X 108 [(0, 20), (1, 0), (2, 0), (3, 0), (4, 0), (5, 0), (6, 0)] [20] _)
                  refine sd_get hC (ci := 10) (j := 16) (C := RX10) (T := TX10) (N := 45) rfl rfl (by decide) in_X10 wl_5_180 dX10_dig_108 (?_ : Sd X 111 [(0, 20), (1, 0), (2, 0), (3, 0), (4, 0), (5, 0), (6, 0)] [100] _)
                  refine sd_aload_n hC 20 dX10_dig_111 rfl (by decide) (by decide) (?_ : Sd X 112 [(0, 20), (1, 0), (2, 0), (3, 0), (4, 0), (5, 0), (6, 0)] [20, 100] _)
                  refine sd_get hC (ci := 10) (j := 17) (C := RX10) (T := TX10) (N := 45) rfl rfl (by decide) in_X10 wl_5_181 dX10_dig_112 (?_ : Sd X 115 [(0, 20), (1, 0), (2, 0), (3, 0), (4, 0), (5, 0), (6, 0)] [0, 100] _)
                  refine sd_iload_n hC dX10_dig_115 rfl (by decide) (?_ : Sd X 116 [(0, 20), (1, 0), (2, 0), (3, 0), (4, 0), (5, 0), (6, 0)] [0, 0, 100] _)
                  refine sd_iload_n hC dX10_dig_116 rfl (by decide) (?_ : Sd X 117 [(0, 20), (1, 0), (2, 0), (3, 0), (4, 0), (5, 0), (6, 0)] [0, 0, 0, 100] _)
                  refine sd_iload_n hC dX10_dig_117 rfl (by decide) (?_ : Sd X 118 [(0, 20), (1, 0), (2, 0), (3, 0), (4, 0), (5, 0), (6, 0)] [0, 0, 0, 0, 100] _)
                  refine sd_iload hC dX10_dig_118 (by decide) (?_ : Sd X 120 [(0, 20), (1, 0), (2, 0), (3, 0), (4, 0), (5, 0), (6, 0)] [0, 0, 0, 0, 0, 100] _)
                  refine sd_iload hC dX10_dig_120 (by decide) (?_ : Sd X 122 [(0, 20), (1, 0), (2, 0), (3, 0), (4, 0), (5, 0), (6, 0)] [0, 0, 0, 0, 0, 0, 100] _)
                  refine sd_iload hC dX10_dig_122 (by decide) (?_ : Sd X 124 [(0, 20), (1, 0), (2, 0), (3, 0), (4, 0), (5, 0), (6, 0)] [0, 0, 0, 0, 0, 0, 0, 100] _)
                  refine sd_invsv (τ := []) (τs := [100, 0, 0, 0, 0, 0, 0, 0]) hC false "" WG (M_X10_sets _) rfl rfl rfl rfl wl_7_51 wl_7_52 wl_1_10 wl_7_53 hd_X10_sets (by rw [e3]; decide) (by decide) dX10_dig_124 (?_ : Sd X 127 [(0, 20), (1, 0), (2, 0), (3, 0), (4, 0), (5, 0), (6, 0)] [] _)
                  refine sd_aload_n hC 20 dX10_dig_127 rfl (by decide) (by decide) (?_ : Sd X 128 [(0, 20), (1, 0), (2, 0), (3, 0), (4, 0), (5, 0), (6, 0)] [20] _)
                  refine sd_dup hC (by decide) dX10_dig_128 (?_ : Sd X 129 [(0, 20), (1, 0), (2, 0), (3, 0), (4, 0), (5, 0), (6, 0)] [20, 20] _)
                  refine sd_get hC (ci := 10) (j := 17) (C := RX10) (T := TX10) (N := 45) rfl rfl (by decide) in_X10 wl_5_181 dX10_dig_129 (?_ : Sd X 132 [(0, 20), (1, 0), (2, 0), (3, 0), (4, 0), (5, 0), (6, 0)] [0, 20] _)
                  refine sd_iconst hC dX10_dig_132 ⟨by decide, by decide⟩ (?_ : Sd X 133 [(0, 20), (1, 0), (2, 0), (3, 0), (4, 0), (5, 0), (6, 0)] [0, 0, 20] _)
                  refine sd_iadd hC dX10_dig_133 (?_ : Sd X 134 [(0, 20), (1, 0), (2, 0), (3, 0), (4, 0), (5, 0), (6, 0)] [0, 20] _)
                  refine sd_put hC (ci := 10) (j := 17) (C := RX10) (T := TX10) (N := 45) tyX10 tyX10_ok nmX10 rfl rfl (by decide) in_X10 rfl rfl wl_5_181 dX10_dig_134 (?_ : Sd X 137 [(0, 20), (1, 0), (2, 0), (3, 0), (4, 0), (5, 0), (6, 0)] [] _)
                  refine sd_aload_n hC 20 dX10_dig_137 rfl (by decide) (by decide) (?_ : Sd X 138 [(0, 20), (1, 0), (2, 0), (3, 0), (4, 0), (5, 0), (6, 0)] [20] _)
                  refine sd_inv0v (τ := []) (τr := []) (ci := 10) (q := (RX10, TX10, 45)) hC WG (M_X10_dawns _) rfl rfl rfl rfl  rfl rfl wl_7_87 wl_7_89 wp_86 wl_1_10 wl_7_90 hd_X10_dawns (by rw [e3]; decide) (by decide) dX10_dig_138 (?_ : Sd X 141 [(0, 20), (1, 0), (2, 0), (3, 0), (4, 0), (5, 0), (6, 0)] [] _)
                  refine sd_aload_n hC 20 dX10_dig_141 rfl (by decide) (by decide) (?_ : Sd X 142 [(0, 20), (1, 0), (2, 0), (3, 0), (4, 0), (5, 0), (6, 0)] [20] _)
                  refine sd_aload_n hC 20 dX10_dig_142 rfl (by decide) (by decide) (?_ : Sd X 143 [(0, 20), (1, 0), (2, 0), (3, 0), (4, 0), (5, 0), (6, 0)] [20, 20] _)
                  refine sd_get hC (ci := 10) (j := 17) (C := RX10) (T := TX10) (N := 45) rfl rfl (by decide) in_X10 wl_5_181 dX10_dig_143 (?_ : Sd X 146 [(0, 20), (1, 0), (2, 0), (3, 0), (4, 0), (5, 0), (6, 0)] [0, 20] _)
                  refine sd_iconst hC dX10_dig_146 ⟨by decide, by decide⟩ (?_ : Sd X 147 [(0, 20), (1, 0), (2, 0), (3, 0), (4, 0), (5, 0), (6, 0)] [0, 0, 20] _)
                  refine sd_isub hC dX10_dig_147 (?_ : Sd X 148 [(0, 20), (1, 0), (2, 0), (3, 0), (4, 0), (5, 0), (6, 0)] [0, 20] _)
                  refine sd_inv0 (τ := []) (τr := [0]) (ci := 10) (q := (RX10, TX10, 45)) hC WG (M_X10_good _) rfl rfl rfl rfl  rfl rfl wl_7_171 wl_7_173 wp_105 wl_1_10 wl_7_174 hd_X10_good (by rw [e3]; decide) (by decide) dX10_dig_148 (?_ : Sd X 151 [(0, 20), (1, 0), (2, 0), (3, 0), (4, 0), (5, 0), (6, 0)] [0] _)
                  exact sd_ireturn hC hT dX10_dig_151
                · refine sd_aload_n hC 20 dX10_dig_97 rfl (by decide) (by decide) (?_ : Sd X 98 [(0, 20), (1, 0), (2, 0), (3, 0), (4, 0), (5, 0), (6, 0)] [20] _)
                  refine sd_iconst hC dX10_dig_98 ⟨by decide, by decide⟩ (?_ : Sd X 99 [(0, 20), (1, 0), (2, 0), (3, 0), (4, 0), (5, 0), (6, 0)] [0, 20] _)
                  refine sd_inv0 (τ := []) (τr := [0]) (ci := 10) (q := (RX10, TX10, 45)) hC WG (M_X10_refused _) rfl rfl rfl rfl  rfl rfl wl_6_72 wl_6_74 wp_63 wl_1_10 wl_6_75 hd_X10_refused (by rw [e3]; decide) (by decide) dX10_dig_99 (?_ : Sd X 102 [(0, 20), (1, 0), (2, 0), (3, 0), (4, 0), (5, 0), (6, 0)] [0] _)
                  exact sd_ireturn hC hT dX10_dig_102
              · exact Sd.weak (by decide) (S_82)
      · exact Sd.weak (by decide) (S_39)
theorem hd_X10_placeNext : yX10_placeNext.cls ≠ "java/lang/invoke/MethodHandle" ∧ yX10_placeNext.cls ≠ "java/lang/invoke/VarHandle" ∧ (parseMethodDescriptor yX10_placeNext.desc).map (fun d => d.parameters.length) = some 1 := by decide +kernel
set_option maxRecDepth 100000 in
set_option maxHeartbeats 4000000 in
theorem M_X10_placeNext (l : Launch) : Mt l yX10_placeNext (Cond.code yX10_placeNext cX10_placeNext 2 (some .int) :: WALL) { frames := 1, cells := 0, slots := 0, locals := 22 } [20, 0] (some 0) T_X10_placeNext := by
  refine Mt.mk (B := E_X10_placeNext) (by decide +kernel) (by decide) (fun _ _ _ hh => hh) ?_
  intro X Q e1 e2 e3 hC hN hT
  subst e1
  have hC : CF X cX10_placeNext RX10 WALL := hC
  have S_35 : Sd X 35 [(0, 20), (1, 0)] [0] (B_X10_placeNext_35 Q) := by
    unfold B_X10_placeNext_35
    exact sd_ireturn hC hT dX10_placeNext_35
  refine (?_ : Sd X 0 [(0, 20), (1, 0)] [] (E_X10_placeNext Q))
  unfold E_X10_placeNext
  refine sd_aload_n hC 20 dX10_placeNext_0 rfl (by decide) (by decide) (?_ : Sd X 1 [(0, 20), (1, 0)] [20] _)
  refine sd_iload_n hC dX10_placeNext_1 rfl (by decide) (?_ : Sd X 2 [(0, 20), (1, 0)] [0, 20] _)
  refine sd_inv0 (τ := []) (τr := [0]) (ci := 10) (q := (RX10, TX10, 45)) hC WG (M_X10_isAtEnd _) rfl rfl rfl rfl  rfl rfl wl_8_39 wl_8_41 wp_117 wl_1_10 wl_8_42 hd_X10_isAtEnd (by rw [e3]; decide) (by decide) dX10_placeNext_2 (?_ : Sd X 5 [(0, 20), (1, 0)] [0] _)
  refine sd_if_eq (tgt := 25) hC dX10_placeNext_5 rfl (?_ : Sd X 25 [(0, 20), (1, 0)] [] _) (?_ : Sd X 8 [(0, 20), (1, 0)] [] _)
  · refine sd_aload_n hC 20 dX10_placeNext_25 rfl (by decide) (by decide) (?_ : Sd X 26 [(0, 20), (1, 0)] [20] _)
    refine sd_aload_n hC 20 dX10_placeNext_26 rfl (by decide) (by decide) (?_ : Sd X 27 [(0, 20), (1, 0)] [20, 20] _)
    refine sd_iload_n hC dX10_placeNext_27 rfl (by decide) (?_ : Sd X 28 [(0, 20), (1, 0)] [0, 20, 20] _)
    refine sd_inv0 (τ := [20]) (τr := [0]) (ci := 10) (q := (RX10, TX10, 45)) hC WG (M_X10_gateNext _) rfl rfl rfl rfl  rfl rfl wl_8_43 wl_8_45 wp_118 wl_1_10 wl_8_46 hd_X10_gateNext (by rw [e3]; decide) (by decide) dX10_placeNext_28 (?_ : Sd X 31 [(0, 20), (1, 0)] [0, 20] _)
    refine sd_iconst hC dX10_placeNext_31 ⟨by decide, by decide⟩ (?_ : Sd X 32 [(0, 20), (1, 0)] [0, 0, 20] _)
    refine sd_inv0 (τ := []) (τr := [0, 0]) (ci := 10) (q := (RX10, TX10, 45)) hC WG (M_X10_of _) rfl rfl rfl rfl  rfl rfl wl_7_131 wl_7_133 wp_96 wl_1_10 wl_7_134 hd_X10_of (by rw [e3]; decide) (by decide) dX10_placeNext_32 (?_ : Sd X 35 [(0, 20), (1, 0)] [0] _)
    exact Sd.weak (by decide) (S_35)
  · refine sd_aload_n hC 20 dX10_placeNext_8 rfl (by decide) (by decide) (?_ : Sd X 9 [(0, 20), (1, 0)] [20] _)
    refine sd_get hC (ci := 10) (j := 3) (C := RX10) (T := TX10) (N := 45) rfl rfl (by decide) in_X10 wl_5_167 dX10_placeNext_9 (?_ : Sd X 12 [(0, 20), (1, 0)] [19] _)
    refine sd_getN hC (ci := 9) (j := 24) (C := RX9) (T := TX9) (N := 28) (host := "NarrowRingsModel") rfl rfl (by decide) in_X9 (by decide) dX10_placeNext_12 (?_ : Sd X 15 [(0, 20), (1, 0)] [100] _)
    refine sd_aload_n hC 20 dX10_placeNext_15 rfl (by decide) (by decide) (?_ : Sd X 16 [(0, 20), (1, 0)] [20, 100] _)
    refine sd_get hC (ci := 10) (j := 34) (C := RX10) (T := TX10) (N := 45) rfl rfl (by decide) in_X10 wl_5_198 dX10_placeNext_16 (?_ : Sd X 19 [(0, 20), (1, 0)] [100, 100] _)
    refine sd_iload_n hC dX10_placeNext_19 rfl (by decide) (?_ : Sd X 20 [(0, 20), (1, 0)] [0, 100, 100] _)
    refine sd_iaload hC dX10_placeNext_20 (?_ : Sd X 21 [(0, 20), (1, 0)] [0, 100] _)
    refine sd_iaload hC dX10_placeNext_21 (?_ : Sd X 22 [(0, 20), (1, 0)] [0] _)
    refine sd_goto (tgt := 35) hC dX10_placeNext_22 rfl (?_ : Sd X 35 [(0, 20), (1, 0)] [0] _)
    exact Sd.weak (by decide) (S_35)
theorem wl_8_35 : Cond.methodLink RX10 480 yX10_placeNext ∈ WALL := tb8 (List.mem_of_getElem? (i := 35) rfl) rfl
theorem wl_8_37 : Cond.instanceMethod yX10_placeNext ∈ WALL := tb8 (List.mem_of_getElem? (i := 37) rfl) rfl
theorem wp_116 : Cond.selects RX10 yX10_placeNext yX10_placeNext ∈ WALL := tbS (List.mem_of_getElem? (i := 116) rfl)
theorem wl_8_38 : Cond.code yX10_placeNext cX10_placeNext 2 (some .int) ∈ WALL := tb8 (List.mem_of_getElem? (i := 38) rfl) rfl
theorem wl_8_47 : Cond.methodLink RX10 483 yX10_comes ∈ WALL := tb8 (List.mem_of_getElem? (i := 47) rfl) rfl
theorem wl_8_49 : Cond.instanceMethod yX10_comes ∈ WALL := tb8 (List.mem_of_getElem? (i := 49) rfl) rfl
theorem wp_119 : Cond.selects RX10 yX10_comes yX10_comes ∈ WALL := tbS (List.mem_of_getElem? (i := 119) rfl)
theorem wl_8_50 : Cond.code yX10_comes cX10_comes 3 none ∈ WALL := tb8 (List.mem_of_getElem? (i := 50) rfl) rfl
theorem hd_X10_drives : yX10_drives.cls ≠ "java/lang/invoke/MethodHandle" ∧ yX10_drives.cls ≠ "java/lang/invoke/VarHandle" ∧ (parseMethodDescriptor yX10_drives.desc).map (fun d => d.parameters.length) = some 1 := by decide +kernel
set_option maxRecDepth 100000 in
set_option maxHeartbeats 4000000 in
theorem M_X10_drives (l : Launch) : Mt l yX10_drives (Cond.code yX10_drives cX10_drives 4 none :: WALL) { frames := 2, cells := 0, slots := 0, locals := 43 } [20, 0] none T_X10_drives := by
  refine Mt.mk (B := E_X10_drives) (by decide +kernel) (by decide) (fun _ _ _ hh => hh) ?_
  intro X Q e1 e2 e3 hC hN hT
  subst e1
  have hC : CF X cX10_drives RX10 WALL := hC
  have S_147 : ∀ (k42 : tK), Sd X 42 [(0, 20), (1, 0), (2, 0), (3, 0)] [] k42 → Sd X 147 [(0, 20), (1, 0), (2, 0), (3, 0)] [] (B_X10_drives_147 Q k42) := by
    intro k42 h42
    unfold B_X10_drives_147
    refine sd_iinc (Γ' := [(0, 20), (1, 0), (2, 0), (3, 0)]) hC dX10_drives_147 (by decide) (by rw [e2]; decide) (by decide) (?_ : Sd X 150 [(0, 20), (1, 0), (2, 0), (3, 0)] [] _)
    refine sd_goto (tgt := 42) hC dX10_drives_150 rfl (?_ : Sd X 42 [(0, 20), (1, 0), (2, 0), (3, 0)] [] _)
    exact Sd.weak (by decide) h42
  have S_42 : Sd X 42 [(0, 20), (1, 0), (2, 0), (3, 0)] [] (L_X10_drives_42 Q) := by
    unfold L_X10_drives_42
    refine Sd.loop (fun k42 h42 => ?_)
    refine sd_iload_n hC dX10_drives_42 rfl (by decide) (?_ : Sd X 43 [(0, 20), (1, 0), (2, 0), (3, 0)] [0] _)
    refine sd_aload_n hC 20 dX10_drives_43 rfl (by decide) (by decide) (?_ : Sd X 44 [(0, 20), (1, 0), (2, 0), (3, 0)] [20, 0] _)
    refine sd_get hC (ci := 10) (j := 3) (C := RX10) (T := TX10) (N := 45) rfl rfl (by decide) in_X10 wl_5_167 dX10_drives_44 (?_ : Sd X 47 [(0, 20), (1, 0), (2, 0), (3, 0)] [19, 0] _)
    refine sd_getN hC (ci := 9) (j := 2) (C := RX9) (T := TX9) (N := 28) (host := "NarrowRingsModel") rfl rfl (by decide) in_X9 (by decide) dX10_drives_47 (?_ : Sd X 50 [(0, 20), (1, 0), (2, 0), (3, 0)] [0, 0] _)
    refine sd_icmp_ge (tgt := 153) hC dX10_drives_50 rfl (?_ : Sd X 153 [(0, 20), (1, 0), (2, 0), (3, 0)] [] _) (?_ : Sd X 53 [(0, 20), (1, 0), (2, 0), (3, 0)] [] _)
    · exact sd_return hC hT dX10_drives_153
    · refine sd_aload_n hC 20 dX10_drives_53 rfl (by decide) (by decide) (?_ : Sd X 54 [(0, 20), (1, 0), (2, 0), (3, 0)] [20] _)
      refine sd_get hC (ci := 10) (j := 3) (C := RX10) (T := TX10) (N := 45) rfl rfl (by decide) in_X10 wl_5_167 dX10_drives_54 (?_ : Sd X 57 [(0, 20), (1, 0), (2, 0), (3, 0)] [19] _)
      refine sd_getN hC (ci := 9) (j := 13) (C := RX9) (T := TX9) (N := 28) (host := "NarrowRingsModel") rfl rfl (by decide) in_X9 (by decide) dX10_drives_57 (?_ : Sd X 60 [(0, 20), (1, 0), (2, 0), (3, 0)] [100] _)
      refine sd_iload_n hC dX10_drives_60 rfl (by decide) (?_ : Sd X 61 [(0, 20), (1, 0), (2, 0), (3, 0)] [0, 100] _)
      refine sd_iaload hC dX10_drives_61 (?_ : Sd X 62 [(0, 20), (1, 0), (2, 0), (3, 0)] [0] _)
      refine sd_aload_n hC 20 dX10_drives_62 rfl (by decide) (by decide) (?_ : Sd X 63 [(0, 20), (1, 0), (2, 0), (3, 0)] [20, 0] _)
      refine sd_get hC (ci := 10) (j := 32) (C := RX10) (T := TX10) (N := 45) rfl rfl (by decide) in_X10 wl_5_196 dX10_drives_63 (?_ : Sd X 66 [(0, 20), (1, 0), (2, 0), (3, 0)] [100, 0] _)
      refine sd_iload_n hC dX10_drives_66 rfl (by decide) (?_ : Sd X 67 [(0, 20), (1, 0), (2, 0), (3, 0)] [0, 100, 0] _)
      refine sd_iconst hC dX10_drives_67 ⟨by decide, by decide⟩ (?_ : Sd X 68 [(0, 20), (1, 0), (2, 0), (3, 0)] [0, 0, 100, 0] _)
      refine sd_iadd hC dX10_drives_68 (?_ : Sd X 69 [(0, 20), (1, 0), (2, 0), (3, 0)] [0, 100, 0] _)
      refine sd_iaload hC dX10_drives_69 (?_ : Sd X 70 [(0, 20), (1, 0), (2, 0), (3, 0)] [0, 0] _)
      refine sd_icmp_ne (tgt := 147) hC dX10_drives_70 rfl (?_ : Sd X 147 [(0, 20), (1, 0), (2, 0), (3, 0)] [] _) (?_ : Sd X 73 [(0, 20), (1, 0), (2, 0), (3, 0)] [] _)
      · exact Sd.weak (by decide) (S_147 k42 h42)
      · refine sd_aload_n hC 20 dX10_drives_73 rfl (by decide) (by decide) (?_ : Sd X 74 [(0, 20), (1, 0), (2, 0), (3, 0)] [20] _)
        refine sd_get hC (ci := 10) (j := 3) (C := RX10) (T := TX10) (N := 45) rfl rfl (by decide) in_X10 wl_5_167 dX10_drives_74 (?_ : Sd X 77 [(0, 20), (1, 0), (2, 0), (3, 0)] [19] _)
        refine sd_getN hC (ci := 9) (j := 14) (C := RX9) (T := TX9) (N := 28) (host := "NarrowRingsModel") rfl rfl (by decide) in_X9 (by decide) dX10_drives_77 (?_ : Sd X 80 [(0, 20), (1, 0), (2, 0), (3, 0)] [100] _)
        refine sd_iload_n hC dX10_drives_80 rfl (by decide) (?_ : Sd X 81 [(0, 20), (1, 0), (2, 0), (3, 0)] [0, 100] _)
        refine sd_iaload hC dX10_drives_81 (?_ : Sd X 82 [(0, 20), (1, 0), (2, 0), (3, 0)] [0] _)
        refine sd_aload_n hC 20 dX10_drives_82 rfl (by decide) (by decide) (?_ : Sd X 83 [(0, 20), (1, 0), (2, 0), (3, 0)] [20, 0] _)
        refine sd_get hC (ci := 10) (j := 35) (C := RX10) (T := TX10) (N := 45) rfl rfl (by decide) in_X10 wl_5_199 dX10_drives_83 (?_ : Sd X 86 [(0, 20), (1, 0), (2, 0), (3, 0)] [100, 0] _)
        refine sd_iload_n hC dX10_drives_86 rfl (by decide) (?_ : Sd X 87 [(0, 20), (1, 0), (2, 0), (3, 0)] [0, 100, 0] _)
        refine sd_iaload hC dX10_drives_87 (?_ : Sd X 88 [(0, 20), (1, 0), (2, 0), (3, 0)] [0, 0] _)
        refine sd_icmp_lt (tgt := 147) hC dX10_drives_88 rfl (?_ : Sd X 147 [(0, 20), (1, 0), (2, 0), (3, 0)] [] _) (?_ : Sd X 91 [(0, 20), (1, 0), (2, 0), (3, 0)] [] _)
        · exact Sd.weak (by decide) (S_147 k42 h42)
        · refine sd_aload_n hC 20 dX10_drives_91 rfl (by decide) (by decide) (?_ : Sd X 92 [(0, 20), (1, 0), (2, 0), (3, 0)] [20] _)
          refine sd_iload_n hC dX10_drives_92 rfl (by decide) (?_ : Sd X 93 [(0, 20), (1, 0), (2, 0), (3, 0)] [0, 20] _)
          refine sd_inv0 (τ := []) (τr := [0]) (ci := 10) (q := (RX10, TX10, 45)) hC WG (M_X10_on _) rfl rfl rfl rfl  rfl rfl wl_8_63 wl_8_65 wp_123 wl_1_10 wl_8_66 hd_X10_on (by rw [e3]; decide) (by decide) dX10_drives_93 (?_ : Sd X 96 [(0, 20), (1, 0), (2, 0), (3, 0)] [0] _)
          refine sd_bipush hC dX10_drives_96 (by decide) (?_ : Sd X 98 [(0, 20), (1, 0), (2, 0), (3, 0)] [0, 0] _)
          refine sd_icmp_eq (tgt := 104) hC dX10_drives_98 rfl (?_ : Sd X 104 [(0, 20), (1, 0), (2, 0), (3, 0)] [] _) (?_ : Sd X 101 [(0, 20), (1, 0), (2, 0), (3, 0)] [] _)
          · refine sd_aload_n hC 20 dX10_drives_104 rfl (by decide) (by decide) (?_ : Sd X 105 [(0, 20), (1, 0), (2, 0), (3, 0)] [20] _)
            refine sd_get hC (ci := 10) (j := 32) (C := RX10) (T := TX10) (N := 45) rfl rfl (by decide) in_X10 wl_5_196 dX10_drives_105 (?_ : Sd X 108 [(0, 20), (1, 0), (2, 0), (3, 0)] [100] _)
            refine sd_iload_n hC dX10_drives_108 rfl (by decide) (?_ : Sd X 109 [(0, 20), (1, 0), (2, 0), (3, 0)] [0, 100] _)
            refine sd_iconst hC dX10_drives_109 ⟨by decide, by decide⟩ (?_ : Sd X 110 [(0, 20), (1, 0), (2, 0), (3, 0)] [0, 0, 100] _)
            refine sd_iadd hC dX10_drives_110 (?_ : Sd X 111 [(0, 20), (1, 0), (2, 0), (3, 0)] [0, 100] _)
            refine sd_iload_n hC dX10_drives_111 rfl (by decide) (?_ : Sd X 112 [(0, 20), (1, 0), (2, 0), (3, 0)] [0, 0, 100] _)
            refine sd_iastore hC dX10_drives_112 (?_ : Sd X 113 [(0, 20), (1, 0), (2, 0), (3, 0)] [] _)
            refine sd_aload_n hC 20 dX10_drives_113 rfl (by decide) (by decide) (?_ : Sd X 114 [(0, 20), (1, 0), (2, 0), (3, 0)] [20] _)
            refine sd_get hC (ci := 10) (j := 32) (C := RX10) (T := TX10) (N := 45) rfl rfl (by decide) in_X10 wl_5_196 dX10_drives_114 (?_ : Sd X 117 [(0, 20), (1, 0), (2, 0), (3, 0)] [100] _)
            refine sd_iload_n hC dX10_drives_117 rfl (by decide) (?_ : Sd X 118 [(0, 20), (1, 0), (2, 0), (3, 0)] [0, 100] _)
            refine sd_iconst hC dX10_drives_118 ⟨by decide, by decide⟩ (?_ : Sd X 119 [(0, 20), (1, 0), (2, 0), (3, 0)] [0, 0, 100] _)
            refine sd_iadd hC dX10_drives_119 (?_ : Sd X 120 [(0, 20), (1, 0), (2, 0), (3, 0)] [0, 100] _)
            refine sd_iconst hC dX10_drives_120 ⟨by decide, by decide⟩ (?_ : Sd X 121 [(0, 20), (1, 0), (2, 0), (3, 0)] [0, 0, 100] _)
            refine sd_iastore hC dX10_drives_121 (?_ : Sd X 122 [(0, 20), (1, 0), (2, 0), (3, 0)] [] _)
            refine sd_aload_n hC 20 dX10_drives_122 rfl (by decide) (by decide) (?_ : Sd X 123 [(0, 20), (1, 0), (2, 0), (3, 0)] [20] _)
            refine sd_get hC (ci := 10) (j := 32) (C := RX10) (T := TX10) (N := 45) rfl rfl (by decide) in_X10 wl_5_196 dX10_drives_123 (?_ : Sd X 126 [(0, 20), (1, 0), (2, 0), (3, 0)] [100] _)
            refine sd_iload_n hC dX10_drives_126 rfl (by decide) (?_ : Sd X 127 [(0, 20), (1, 0), (2, 0), (3, 0)] [0, 100] _)
            refine sd_iconst hC dX10_drives_127 ⟨by decide, by decide⟩ (?_ : Sd X 128 [(0, 20), (1, 0), (2, 0), (3, 0)] [0, 0, 100] _)
            refine sd_iadd hC dX10_drives_128 (?_ : Sd X 129 [(0, 20), (1, 0), (2, 0), (3, 0)] [0, 100] _)
            refine sd_aload_n hC 20 dX10_drives_129 rfl (by decide) (by decide) (?_ : Sd X 130 [(0, 20), (1, 0), (2, 0), (3, 0)] [20, 0, 100] _)
            refine sd_get hC (ci := 10) (j := 32) (C := RX10) (T := TX10) (N := 45) rfl rfl (by decide) in_X10 wl_5_196 dX10_drives_130 (?_ : Sd X 133 [(0, 20), (1, 0), (2, 0), (3, 0)] [100, 0, 100] _)
            refine sd_iload_n hC dX10_drives_133 rfl (by decide) (?_ : Sd X 134 [(0, 20), (1, 0), (2, 0), (3, 0)] [0, 100, 0, 100] _)
            refine sd_iconst hC dX10_drives_134 ⟨by decide, by decide⟩ (?_ : Sd X 135 [(0, 20), (1, 0), (2, 0), (3, 0)] [0, 0, 100, 0, 100] _)
            refine sd_iadd hC dX10_drives_135 (?_ : Sd X 136 [(0, 20), (1, 0), (2, 0), (3, 0)] [0, 100, 0, 100] _)
            refine sd_iaload hC dX10_drives_136 (?_ : Sd X 137 [(0, 20), (1, 0), (2, 0), (3, 0)] [0, 0, 100] _)
            refine sd_aload_n hC 20 dX10_drives_137 rfl (by decide) (by decide) (?_ : Sd X 138 [(0, 20), (1, 0), (2, 0), (3, 0)] [20, 0, 0, 100] _)
            refine sd_iload_n hC dX10_drives_138 rfl (by decide) (?_ : Sd X 139 [(0, 20), (1, 0), (2, 0), (3, 0)] [0, 20, 0, 0, 100] _)
            refine sd_inv0 (τ := [0, 0, 100]) (τr := [0]) (ci := 10) (q := (RX10, TX10, 45)) hC WG (M_X10_placeNext _) rfl rfl rfl rfl  rfl rfl wl_8_35 wl_8_37 wp_116 wl_1_10 wl_8_38 hd_X10_placeNext (by rw [e3]; decide) (by decide) dX10_drives_139 (?_ : Sd X 142 [(0, 20), (1, 0), (2, 0), (3, 0)] [0, 0, 0, 100] _)
            refine sd_invs (τ := [0, 100]) (τs := [0, 0]) hC false "" WG (M_X10_round _) rfl rfl rfl rfl wl_7_168 wl_7_169 wl_1_10 wl_7_170 hd_X10_round (by rw [e3]; decide) (by decide) dX10_drives_142 (?_ : Sd X 145 [(0, 20), (1, 0), (2, 0), (3, 0)] [0, 0, 100] _)
            refine sd_iastore hC dX10_drives_145 (?_ : Sd X 146 [(0, 20), (1, 0), (2, 0), (3, 0)] [] _)
            exact sd_return hC hT dX10_drives_146
          · refine sd_goto (tgt := 147) hC dX10_drives_101 rfl (?_ : Sd X 147 [(0, 20), (1, 0), (2, 0), (3, 0)] [] _)
            exact Sd.weak (by decide) (S_147 k42 h42)
  refine (?_ : Sd X 0 [(0, 20), (1, 0)] [] (E_X10_drives Q))
  unfold E_X10_drives
  refine sd_bipush hC dX10_drives_0 (by decide) (?_ : Sd X 2 [(0, 20), (1, 0)] [0] _)
  refine sd_iload_n hC dX10_drives_2 rfl (by decide) (?_ : Sd X 3 [(0, 20), (1, 0)] [0, 0] _)
  refine sd_imul hC dX10_drives_3 (?_ : Sd X 4 [(0, 20), (1, 0)] [0] _)
  refine sd_istore_n (Γ' := [(0, 20), (1, 0), (2, 0)]) hC dX10_drives_4 rfl (by rw [e2]; decide) (by decide) (?_ : Sd X 5 [(0, 20), (1, 0), (2, 0)] [] _)
  refine sd_aload_n hC 20 dX10_drives_5 rfl (by decide) (by decide) (?_ : Sd X 6 [(0, 20), (1, 0), (2, 0)] [20] _)
  refine sd_get hC (ci := 10) (j := 32) (C := RX10) (T := TX10) (N := 45) rfl rfl (by decide) in_X10 wl_5_196 dX10_drives_6 (?_ : Sd X 9 [(0, 20), (1, 0), (2, 0)] [100] _)
  refine sd_iload_n hC dX10_drives_9 rfl (by decide) (?_ : Sd X 10 [(0, 20), (1, 0), (2, 0)] [0, 100] _)
  refine sd_iconst hC dX10_drives_10 ⟨by decide, by decide⟩ (?_ : Sd X 11 [(0, 20), (1, 0), (2, 0)] [0, 0, 100] _)
  refine sd_iadd hC dX10_drives_11 (?_ : Sd X 12 [(0, 20), (1, 0), (2, 0)] [0, 100] _)
  refine sd_iaload hC dX10_drives_12 (?_ : Sd X 13 [(0, 20), (1, 0), (2, 0)] [0] _)
  refine sd_iconst hC dX10_drives_13 ⟨by decide, by decide⟩ (?_ : Sd X 14 [(0, 20), (1, 0), (2, 0)] [0, 0] _)
  refine sd_icmp_eq (tgt := 18) hC dX10_drives_14 rfl (?_ : Sd X 18 [(0, 20), (1, 0), (2, 0)] [] _) (?_ : Sd X 17 [(0, 20), (1, 0), (2, 0)] [] _)
  · refine sd_aload_n hC 20 dX10_drives_18 rfl (by decide) (by decide) (?_ : Sd X 19 [(0, 20), (1, 0), (2, 0)] [20] _)
    refine sd_get hC (ci := 10) (j := 32) (C := RX10) (T := TX10) (N := 45) rfl rfl (by decide) in_X10 wl_5_196 dX10_drives_19 (?_ : Sd X 22 [(0, 20), (1, 0), (2, 0)] [100] _)
    refine sd_iload_n hC dX10_drives_22 rfl (by decide) (?_ : Sd X 23 [(0, 20), (1, 0), (2, 0)] [0, 100] _)
    refine sd_iconst hC dX10_drives_23 ⟨by decide, by decide⟩ (?_ : Sd X 24 [(0, 20), (1, 0), (2, 0)] [0, 0, 100] _)
    refine sd_iadd hC dX10_drives_24 (?_ : Sd X 25 [(0, 20), (1, 0), (2, 0)] [0, 100] _)
    refine sd_iaload hC dX10_drives_25 (?_ : Sd X 26 [(0, 20), (1, 0), (2, 0)] [0] _)
    refine sd_aload_n hC 20 dX10_drives_26 rfl (by decide) (by decide) (?_ : Sd X 27 [(0, 20), (1, 0), (2, 0)] [20, 0] _)
    refine sd_iload_n hC dX10_drives_27 rfl (by decide) (?_ : Sd X 28 [(0, 20), (1, 0), (2, 0)] [0, 20, 0] _)
    refine sd_inv0 (τ := [0]) (τr := [0]) (ci := 10) (q := (RX10, TX10, 45)) hC WG (M_X10_placeNext _) rfl rfl rfl rfl  rfl rfl wl_8_35 wl_8_37 wp_116 wl_1_10 wl_8_38 hd_X10_placeNext (by rw [e3]; decide) (by decide) dX10_drives_28 (?_ : Sd X 31 [(0, 20), (1, 0), (2, 0)] [0, 0] _)
    refine sd_icmp_ne (tgt := 40) hC dX10_drives_31 rfl (?_ : Sd X 40 [(0, 20), (1, 0), (2, 0)] [] _) (?_ : Sd X 34 [(0, 20), (1, 0), (2, 0)] [] _)
    · refine sd_iconst hC dX10_drives_40 ⟨by decide, by decide⟩ (?_ : Sd X 41 [(0, 20), (1, 0), (2, 0)] [0] _)
      refine sd_istore_n (Γ' := [(0, 20), (1, 0), (2, 0), (3, 0)]) hC dX10_drives_41 rfl (by rw [e2]; decide) (by decide) (?_ : Sd X 42 [(0, 20), (1, 0), (2, 0), (3, 0)] [] _)
      exact Sd.weak (by decide) (S_42)
    · refine sd_aload_n hC 20 dX10_drives_34 rfl (by decide) (by decide) (?_ : Sd X 35 [(0, 20), (1, 0), (2, 0)] [20] _)
      refine sd_iload_n hC dX10_drives_35 rfl (by decide) (?_ : Sd X 36 [(0, 20), (1, 0), (2, 0)] [0, 20] _)
      refine sd_inv0v (τ := []) (τr := [0]) (ci := 10) (q := (RX10, TX10, 45)) hC WG (M_X10_comes _) rfl rfl rfl rfl  rfl rfl wl_8_47 wl_8_49 wp_119 wl_1_10 wl_8_50 hd_X10_comes (by rw [e3]; decide) (by decide) dX10_drives_36 (?_ : Sd X 39 [(0, 20), (1, 0), (2, 0)] [] _)
      exact sd_return hC hT dX10_drives_39
  · exact sd_return hC hT dX10_drives_17
theorem hd_X10_eatsSign : yX10_eatsSign.cls ≠ "java/lang/invoke/MethodHandle" ∧ yX10_eatsSign.cls ≠ "java/lang/invoke/VarHandle" ∧ (parseMethodDescriptor yX10_eatsSign.desc).map (fun d => d.parameters.length) = some 1 := by decide +kernel
set_option maxRecDepth 100000 in
set_option maxHeartbeats 4000000 in
theorem M_X10_eatsSign (l : Launch) : Mt l yX10_eatsSign (Cond.code yX10_eatsSign cX10_eatsSign 3 (some .boolean) :: WALL) { frames := 2, cells := 0, slots := 0, locals := 43 } [20, 0] (some 0) T_X10_eatsSign := by
  refine Mt.mk (B := E_X10_eatsSign) (by decide +kernel) (by decide) (fun _ _ _ hh => hh) ?_
  intro X Q e1 e2 e3 hC hN hT
  subst e1
  have hC : CF X cX10_eatsSign RX10 WALL := hC
  have S_30 : Sd X 30 [(0, 20), (1, 0), (2, 0)] [] (B_X10_eatsSign_30 Q) := by
    unfold B_X10_eatsSign_30
    refine sd_iload_n hC dX10_eatsSign_30 rfl (by decide) (?_ : Sd X 31 [(0, 20), (1, 0), (2, 0)] [0] _)
    exact sd_zreturn hC hT dX10_eatsSign_31
  have S_21 : Sd X 21 [(0, 20), (1, 0)] [0] (B_X10_eatsSign_21 Q) := by
    unfold B_X10_eatsSign_21
    refine sd_istore_n (Γ' := [(0, 20), (1, 0), (2, 0)]) hC dX10_eatsSign_21 rfl (by rw [e2]; decide) (by decide) (?_ : Sd X 22 [(0, 20), (1, 0), (2, 0)] [] _)
    refine sd_iload_n hC dX10_eatsSign_22 rfl (by decide) (?_ : Sd X 23 [(0, 20), (1, 0), (2, 0)] [0] _)
    refine sd_if_eq (tgt := 30) hC dX10_eatsSign_23 rfl (?_ : Sd X 30 [(0, 20), (1, 0), (2, 0)] [] _) (?_ : Sd X 26 [(0, 20), (1, 0), (2, 0)] [] _)
    · exact Sd.weak (by decide) (S_30)
    · refine sd_aload_n hC 20 dX10_eatsSign_26 rfl (by decide) (by decide) (?_ : Sd X 27 [(0, 20), (1, 0), (2, 0)] [20] _)
      refine sd_inv0v (τ := []) (τr := []) (ci := 10) (q := (RX10, TX10, 45)) hC WG (M_X10_goesOn _) rfl rfl rfl rfl  rfl rfl wl_6_189 wl_6_191 wp_64 wl_1_10 wl_6_192 hd_X10_goesOn (by rw [e3]; decide) (by decide) dX10_eatsSign_27 (?_ : Sd X 30 [(0, 20), (1, 0), (2, 0)] [] _)
      exact Sd.weak (by decide) (S_30)
  have S_20 : Sd X 20 [(0, 20), (1, 0)] [] (B_X10_eatsSign_20 Q) := by
    unfold B_X10_eatsSign_20
    refine sd_iconst hC dX10_eatsSign_20 ⟨by decide, by decide⟩ (?_ : Sd X 21 [(0, 20), (1, 0)] [0] _)
    exact Sd.weak (by decide) (S_21)
  refine (?_ : Sd X 0 [(0, 20), (1, 0)] [] (E_X10_eatsSign Q))
  unfold E_X10_eatsSign
  refine sd_aload_n hC 20 dX10_eatsSign_0 rfl (by decide) (by decide) (?_ : Sd X 1 [(0, 20), (1, 0)] [20] _)
  refine sd_get hC (ci := 10) (j := 9) (C := RX10) (T := TX10) (N := 45) rfl rfl (by decide) in_X10 wl_5_173 dX10_eatsSign_1 (?_ : Sd X 4 [(0, 20), (1, 0)] [0] _)
  refine sd_iconst hC dX10_eatsSign_4 ⟨by decide, by decide⟩ (?_ : Sd X 5 [(0, 20), (1, 0)] [0, 0] _)
  refine sd_icmp_ne (tgt := 20) hC dX10_eatsSign_5 rfl (?_ : Sd X 20 [(0, 20), (1, 0)] [] _) (?_ : Sd X 8 [(0, 20), (1, 0)] [] _)
  · exact Sd.weak (by decide) (S_20)
  · refine sd_aload_n hC 20 dX10_eatsSign_8 rfl (by decide) (by decide) (?_ : Sd X 9 [(0, 20), (1, 0)] [20] _)
    refine sd_get hC (ci := 10) (j := 11) (C := RX10) (T := TX10) (N := 45) rfl rfl (by decide) in_X10 wl_5_175 dX10_eatsSign_9 (?_ : Sd X 12 [(0, 20), (1, 0)] [0] _)
    refine sd_iload_n hC dX10_eatsSign_12 rfl (by decide) (?_ : Sd X 13 [(0, 20), (1, 0)] [0, 0] _)
    refine sd_icmp_ne (tgt := 20) hC dX10_eatsSign_13 rfl (?_ : Sd X 20 [(0, 20), (1, 0)] [] _) (?_ : Sd X 16 [(0, 20), (1, 0)] [] _)
    · exact Sd.weak (by decide) (S_20)
    · refine sd_iconst hC dX10_eatsSign_16 ⟨by decide, by decide⟩ (?_ : Sd X 17 [(0, 20), (1, 0)] [0] _)
      refine sd_goto (tgt := 21) hC dX10_eatsSign_17 rfl (?_ : Sd X 21 [(0, 20), (1, 0)] [0] _)
      exact Sd.weak (by decide) (S_21)
theorem hd_X10_fault : yX10_fault.cls ≠ "java/lang/invoke/MethodHandle" ∧ yX10_fault.cls ≠ "java/lang/invoke/VarHandle" ∧ (parseMethodDescriptor yX10_fault.desc).map (fun d => d.parameters.length) = some 0 := by decide +kernel
set_option maxRecDepth 100000 in
set_option maxHeartbeats 4000000 in
theorem M_X10_fault (l : Launch) : Mt l yX10_fault (Cond.code yX10_fault cX10_fault 1 (some .int) :: WALL) { frames := 0, cells := 0, slots := 0, locals := 0 } [20] (some 0) T_X10_fault := by
  refine Mt.mk (B := E_X10_fault) (by decide +kernel) (by decide) (fun _ _ _ hh => hh) ?_
  intro X Q e1 e2 e3 hC hN hT
  subst e1
  have hC : CF X cX10_fault RX10 WALL := hC
  refine (?_ : Sd X 0 [(0, 20)] [] (E_X10_fault Q))
  unfold E_X10_fault
  refine sd_aload_n hC 20 dX10_fault_0 rfl (by decide) (by decide) (?_ : Sd X 1 [(0, 20)] [20] _)
  refine sd_iconst hC dX10_fault_1 ⟨by decide, by decide⟩ (?_ : Sd X 2 [(0, 20)] [0, 20] _)
  refine sd_put hC (ci := 10) (j := 0) (C := RX10) (T := TX10) (N := 45) tyX10 tyX10_ok nmX10 rfl rfl (by decide) in_X10 rfl rfl wl_5_164 dX10_fault_2 (?_ : Sd X 5 [(0, 20)] [] _)
  refine sd_aload_n hC 20 dX10_fault_5 rfl (by decide) (by decide) (?_ : Sd X 6 [(0, 20)] [20] _)
  refine sd_get hC (ci := 10) (j := 13) (C := RX10) (T := TX10) (N := 45) rfl rfl (by decide) in_X10 wl_5_177 dX10_fault_6 (?_ : Sd X 9 [(0, 20)] [0] _)
  exact sd_ireturn hC hT dX10_fault_9
theorem wl_5_170 : Cond.fieldLink RX10 329 "NarrowRingsModel" "taped" "I" ∈ WALL := tb5 (List.mem_of_getElem? (i := 170) rfl) rfl
theorem hd_X10_feed : yX10_feed.cls ≠ "java/lang/invoke/MethodHandle" ∧ yX10_feed.cls ≠ "java/lang/invoke/VarHandle" ∧ (parseMethodDescriptor yX10_feed.desc).map (fun d => d.parameters.length) = some 5 := by decide +kernel
set_option maxRecDepth 100000 in
set_option maxHeartbeats 4000000 in
theorem M_X10_feed (l : Launch) : Mt l yX10_feed (Cond.code yX10_feed cX10_feed 8 (some .int) :: WALL) { frames := 0, cells := 0, slots := 0, locals := 0 } [20, 0, 0, 0, 0, 0] (some 0) T_X10_feed := by
  refine Mt.mk (B := E_X10_feed) (by decide +kernel) (by decide) (fun _ _ _ hh => hh) ?_
  intro X Q e1 e2 e3 hC hN hT
  subst e1
  have hC : CF X cX10_feed RX10 WALL := hC
  have S_76 : ∀ (k23 : tK), Sd X 23 [(0, 20), (1, 0), (2, 0), (3, 0), (4, 0), (5, 0), (6, 0)] [] k23 → Sd X 76 [(0, 20), (1, 0), (2, 0), (3, 0), (4, 0), (5, 0), (6, 0)] [0] (B_X10_feed_76 Q k23) := by
    intro k23 h23
    unfold B_X10_feed_76
    refine sd_istore (Γ' := [(0, 20), (1, 0), (2, 0), (3, 0), (4, 0), (5, 0), (6, 0), (7, 0)]) hC dX10_feed_76 (by rw [e2]; decide) (by decide) (?_ : Sd X 78 [(0, 20), (1, 0), (2, 0), (3, 0), (4, 0), (5, 0), (6, 0), (7, 0)] [] _)
    refine sd_aload_n hC 20 dX10_feed_78 rfl (by decide) (by decide) (?_ : Sd X 79 [(0, 20), (1, 0), (2, 0), (3, 0), (4, 0), (5, 0), (6, 0), (7, 0)] [20] _)
    refine sd_get hC (ci := 10) (j := 5) (C := RX10) (T := TX10) (N := 45) rfl rfl (by decide) in_X10 wl_5_169 dX10_feed_79 (?_ : Sd X 82 [(0, 20), (1, 0), (2, 0), (3, 0), (4, 0), (5, 0), (6, 0), (7, 0)] [102] _)
    refine sd_aload_n hC 20 dX10_feed_82 rfl (by decide) (by decide) (?_ : Sd X 83 [(0, 20), (1, 0), (2, 0), (3, 0), (4, 0), (5, 0), (6, 0), (7, 0)] [20, 102] _)
    refine sd_get hC (ci := 10) (j := 6) (C := RX10) (T := TX10) (N := 45) rfl rfl (by decide) in_X10 wl_5_170 dX10_feed_83 (?_ : Sd X 86 [(0, 20), (1, 0), (2, 0), (3, 0), (4, 0), (5, 0), (6, 0), (7, 0)] [0, 102] _)
    refine sd_iload hC dX10_feed_86 (by decide) (?_ : Sd X 88 [(0, 20), (1, 0), (2, 0), (3, 0), (4, 0), (5, 0), (6, 0), (7, 0)] [0, 0, 102] _)
    refine sd_bipush hC dX10_feed_88 (by decide) (?_ : Sd X 90 [(0, 20), (1, 0), (2, 0), (3, 0), (4, 0), (5, 0), (6, 0), (7, 0)] [0, 0, 0, 102] _)
    refine sd_bipush hC dX10_feed_90 (by decide) (?_ : Sd X 92 [(0, 20), (1, 0), (2, 0), (3, 0), (4, 0), (5, 0), (6, 0), (7, 0)] [0, 0, 0, 0, 102] _)
    refine sd_iload hC dX10_feed_92 (by decide) (?_ : Sd X 94 [(0, 20), (1, 0), (2, 0), (3, 0), (4, 0), (5, 0), (6, 0), (7, 0)] [0, 0, 0, 0, 0, 102] _)
    refine sd_iconst hC dX10_feed_94 ⟨by decide, by decide⟩ (?_ : Sd X 95 [(0, 20), (1, 0), (2, 0), (3, 0), (4, 0), (5, 0), (6, 0), (7, 0)] [0, 0, 0, 0, 0, 0, 102] _)
    refine sd_irem hC dX10_feed_95 (?_ : Sd X 96 [(0, 20), (1, 0), (2, 0), (3, 0), (4, 0), (5, 0), (6, 0), (7, 0)] [0, 0, 0, 0, 0, 102] _)
    refine sd_imul hC dX10_feed_96 (?_ : Sd X 97 [(0, 20), (1, 0), (2, 0), (3, 0), (4, 0), (5, 0), (6, 0), (7, 0)] [0, 0, 0, 0, 102] _)
    refine sd_isub hC dX10_feed_97 (?_ : Sd X 98 [(0, 20), (1, 0), (2, 0), (3, 0), (4, 0), (5, 0), (6, 0), (7, 0)] [0, 0, 0, 102] _)
    refine sd_ishr hC dX10_feed_98 (?_ : Sd X 99 [(0, 20), (1, 0), (2, 0), (3, 0), (4, 0), (5, 0), (6, 0), (7, 0)] [0, 0, 102] _)
    refine sd_i2b hC dX10_feed_99 (?_ : Sd X 100 [(0, 20), (1, 0), (2, 0), (3, 0), (4, 0), (5, 0), (6, 0), (7, 0)] [0, 0, 102] _)
    refine sd_bastore hC dX10_feed_100 (?_ : Sd X 101 [(0, 20), (1, 0), (2, 0), (3, 0), (4, 0), (5, 0), (6, 0), (7, 0)] [] _)
    refine sd_aload_n hC 20 dX10_feed_101 rfl (by decide) (by decide) (?_ : Sd X 102 [(0, 20), (1, 0), (2, 0), (3, 0), (4, 0), (5, 0), (6, 0), (7, 0)] [20] _)
    refine sd_dup hC (by decide) dX10_feed_102 (?_ : Sd X 103 [(0, 20), (1, 0), (2, 0), (3, 0), (4, 0), (5, 0), (6, 0), (7, 0)] [20, 20] _)
    refine sd_get hC (ci := 10) (j := 6) (C := RX10) (T := TX10) (N := 45) rfl rfl (by decide) in_X10 wl_5_170 dX10_feed_103 (?_ : Sd X 106 [(0, 20), (1, 0), (2, 0), (3, 0), (4, 0), (5, 0), (6, 0), (7, 0)] [0, 20] _)
    refine sd_iconst hC dX10_feed_106 ⟨by decide, by decide⟩ (?_ : Sd X 107 [(0, 20), (1, 0), (2, 0), (3, 0), (4, 0), (5, 0), (6, 0), (7, 0)] [0, 0, 20] _)
    refine sd_iadd hC dX10_feed_107 (?_ : Sd X 108 [(0, 20), (1, 0), (2, 0), (3, 0), (4, 0), (5, 0), (6, 0), (7, 0)] [0, 20] _)
    refine sd_put hC (ci := 10) (j := 6) (C := RX10) (T := TX10) (N := 45) tyX10 tyX10_ok nmX10 rfl rfl (by decide) in_X10 rfl rfl wl_5_170 dX10_feed_108 (?_ : Sd X 111 [(0, 20), (1, 0), (2, 0), (3, 0), (4, 0), (5, 0), (6, 0), (7, 0)] [] _)
    refine sd_iinc (Γ' := [(0, 20), (1, 0), (2, 0), (3, 0), (4, 0), (5, 0), (6, 0), (7, 0)]) hC dX10_feed_111 (by decide) (by rw [e2]; decide) (by decide) (?_ : Sd X 114 [(0, 20), (1, 0), (2, 0), (3, 0), (4, 0), (5, 0), (6, 0), (7, 0)] [] _)
    refine sd_goto (tgt := 23) hC dX10_feed_114 rfl (?_ : Sd X 23 [(0, 20), (1, 0), (2, 0), (3, 0), (4, 0), (5, 0), (6, 0), (7, 0)] [] _)
    exact Sd.weak (by decide) h23
  have S_23 : Sd X 23 [(0, 20), (1, 0), (2, 0), (3, 0), (4, 0), (5, 0), (6, 0)] [] (L_X10_feed_23 Q) := by
    unfold L_X10_feed_23
    refine Sd.loop (fun k23 h23 => ?_)
    refine sd_iload hC dX10_feed_23 (by decide) (?_ : Sd X 25 [(0, 20), (1, 0), (2, 0), (3, 0), (4, 0), (5, 0), (6, 0)] [0] _)
    refine sd_bipush hC dX10_feed_25 (by decide) (?_ : Sd X 27 [(0, 20), (1, 0), (2, 0), (3, 0), (4, 0), (5, 0), (6, 0)] [0, 0] _)
    refine sd_icmp_ge (tgt := 117) hC dX10_feed_27 rfl (?_ : Sd X 117 [(0, 20), (1, 0), (2, 0), (3, 0), (4, 0), (5, 0), (6, 0)] [] _) (?_ : Sd X 30 [(0, 20), (1, 0), (2, 0), (3, 0), (4, 0), (5, 0), (6, 0)] [] _)
    · refine sd_aload_n hC 20 dX10_feed_117 rfl (by decide) (by decide) (?_ : Sd X 118 [(0, 20), (1, 0), (2, 0), (3, 0), (4, 0), (5, 0), (6, 0)] [20] _)
      refine sd_get hC (ci := 10) (j := 6) (C := RX10) (T := TX10) (N := 45) rfl rfl (by decide) in_X10 wl_5_170 dX10_feed_118 (?_ : Sd X 121 [(0, 20), (1, 0), (2, 0), (3, 0), (4, 0), (5, 0), (6, 0)] [0] _)
      exact sd_ireturn hC hT dX10_feed_121
    · refine sd_iload hC dX10_feed_30 (by decide) (?_ : Sd X 32 [(0, 20), (1, 0), (2, 0), (3, 0), (4, 0), (5, 0), (6, 0)] [0] _)
      refine sd_iconst hC dX10_feed_32 ⟨by decide, by decide⟩ (?_ : Sd X 33 [(0, 20), (1, 0), (2, 0), (3, 0), (4, 0), (5, 0), (6, 0)] [0, 0] _)
      refine sd_icmp_ge (tgt := 40) hC dX10_feed_33 rfl (?_ : Sd X 40 [(0, 20), (1, 0), (2, 0), (3, 0), (4, 0), (5, 0), (6, 0)] [] _) (?_ : Sd X 36 [(0, 20), (1, 0), (2, 0), (3, 0), (4, 0), (5, 0), (6, 0)] [] _)
      · refine sd_iload hC dX10_feed_40 (by decide) (?_ : Sd X 42 [(0, 20), (1, 0), (2, 0), (3, 0), (4, 0), (5, 0), (6, 0)] [0] _)
        refine sd_bipush hC dX10_feed_42 (by decide) (?_ : Sd X 44 [(0, 20), (1, 0), (2, 0), (3, 0), (4, 0), (5, 0), (6, 0)] [0, 0] _)
        refine sd_icmp_ge (tgt := 51) hC dX10_feed_44 rfl (?_ : Sd X 51 [(0, 20), (1, 0), (2, 0), (3, 0), (4, 0), (5, 0), (6, 0)] [] _) (?_ : Sd X 47 [(0, 20), (1, 0), (2, 0), (3, 0), (4, 0), (5, 0), (6, 0)] [] _)
        · refine sd_iload hC dX10_feed_51 (by decide) (?_ : Sd X 53 [(0, 20), (1, 0), (2, 0), (3, 0), (4, 0), (5, 0), (6, 0)] [0] _)
          refine sd_bipush hC dX10_feed_53 (by decide) (?_ : Sd X 55 [(0, 20), (1, 0), (2, 0), (3, 0), (4, 0), (5, 0), (6, 0)] [0, 0] _)
          refine sd_icmp_ge (tgt := 62) hC dX10_feed_55 rfl (?_ : Sd X 62 [(0, 20), (1, 0), (2, 0), (3, 0), (4, 0), (5, 0), (6, 0)] [] _) (?_ : Sd X 58 [(0, 20), (1, 0), (2, 0), (3, 0), (4, 0), (5, 0), (6, 0)] [] _)
          · refine sd_iload hC dX10_feed_62 (by decide) (?_ : Sd X 64 [(0, 20), (1, 0), (2, 0), (3, 0), (4, 0), (5, 0), (6, 0)] [0] _)
            refine sd_bipush hC dX10_feed_64 (by decide) (?_ : Sd X 66 [(0, 20), (1, 0), (2, 0), (3, 0), (4, 0), (5, 0), (6, 0)] [0, 0] _)
            refine sd_icmp_ge (tgt := 74) hC dX10_feed_66 rfl (?_ : Sd X 74 [(0, 20), (1, 0), (2, 0), (3, 0), (4, 0), (5, 0), (6, 0)] [] _) (?_ : Sd X 69 [(0, 20), (1, 0), (2, 0), (3, 0), (4, 0), (5, 0), (6, 0)] [] _)
            · refine sd_iload hC dX10_feed_74 (by decide) (?_ : Sd X 76 [(0, 20), (1, 0), (2, 0), (3, 0), (4, 0), (5, 0), (6, 0)] [0] _)
              exact Sd.weak (by decide) (S_76 k23 h23)
            · refine sd_iload hC dX10_feed_69 (by decide) (?_ : Sd X 71 [(0, 20), (1, 0), (2, 0), (3, 0), (4, 0), (5, 0), (6, 0)] [0] _)
              refine sd_goto (tgt := 76) hC dX10_feed_71 rfl (?_ : Sd X 76 [(0, 20), (1, 0), (2, 0), (3, 0), (4, 0), (5, 0), (6, 0)] [0] _)
              exact Sd.weak (by decide) (S_76 k23 h23)
          · refine sd_iload_n hC dX10_feed_58 rfl (by decide) (?_ : Sd X 59 [(0, 20), (1, 0), (2, 0), (3, 0), (4, 0), (5, 0), (6, 0)] [0] _)
            refine sd_goto (tgt := 76) hC dX10_feed_59 rfl (?_ : Sd X 76 [(0, 20), (1, 0), (2, 0), (3, 0), (4, 0), (5, 0), (6, 0)] [0] _)
            exact Sd.weak (by decide) (S_76 k23 h23)
        · refine sd_iload_n hC dX10_feed_47 rfl (by decide) (?_ : Sd X 48 [(0, 20), (1, 0), (2, 0), (3, 0), (4, 0), (5, 0), (6, 0)] [0] _)
          refine sd_goto (tgt := 76) hC dX10_feed_48 rfl (?_ : Sd X 76 [(0, 20), (1, 0), (2, 0), (3, 0), (4, 0), (5, 0), (6, 0)] [0] _)
          exact Sd.weak (by decide) (S_76 k23 h23)
      · refine sd_iload_n hC dX10_feed_36 rfl (by decide) (?_ : Sd X 37 [(0, 20), (1, 0), (2, 0), (3, 0), (4, 0), (5, 0), (6, 0)] [0] _)
        refine sd_goto (tgt := 76) hC dX10_feed_37 rfl (?_ : Sd X 76 [(0, 20), (1, 0), (2, 0), (3, 0), (4, 0), (5, 0), (6, 0)] [0] _)
        exact Sd.weak (by decide) (S_76 k23 h23)
  refine (?_ : Sd X 0 [(0, 20), (1, 0), (2, 0), (3, 0), (4, 0), (5, 0)] [] (E_X10_feed Q))
  unfold E_X10_feed
  refine sd_aload_n hC 20 dX10_feed_0 rfl (by decide) (by decide) (?_ : Sd X 1 [(0, 20), (1, 0), (2, 0), (3, 0), (4, 0), (5, 0)] [20] _)
  refine sd_iconst hC dX10_feed_1 ⟨by decide, by decide⟩ (?_ : Sd X 2 [(0, 20), (1, 0), (2, 0), (3, 0), (4, 0), (5, 0)] [0, 20] _)
  refine sd_put hC (ci := 10) (j := 0) (C := RX10) (T := TX10) (N := 45) tyX10 tyX10_ok nmX10 rfl rfl (by decide) in_X10 rfl rfl wl_5_164 dX10_feed_2 (?_ : Sd X 5 [(0, 20), (1, 0), (2, 0), (3, 0), (4, 0), (5, 0)] [] _)
  refine sd_aload_n hC 20 dX10_feed_5 rfl (by decide) (by decide) (?_ : Sd X 6 [(0, 20), (1, 0), (2, 0), (3, 0), (4, 0), (5, 0)] [20] _)
  refine sd_get hC (ci := 10) (j := 6) (C := RX10) (T := TX10) (N := 45) rfl rfl (by decide) in_X10 wl_5_170 dX10_feed_6 (?_ : Sd X 9 [(0, 20), (1, 0), (2, 0), (3, 0), (4, 0), (5, 0)] [0] _)
  refine sd_bipush hC dX10_feed_9 (by decide) (?_ : Sd X 11 [(0, 20), (1, 0), (2, 0), (3, 0), (4, 0), (5, 0)] [0, 0] _)
  refine sd_iadd hC dX10_feed_11 (?_ : Sd X 12 [(0, 20), (1, 0), (2, 0), (3, 0), (4, 0), (5, 0)] [0] _)
  refine sd_sipush hC dX10_feed_12 (by decide) (?_ : Sd X 15 [(0, 20), (1, 0), (2, 0), (3, 0), (4, 0), (5, 0)] [0, 0] _)
  refine sd_icmp_le (tgt := 20) hC dX10_feed_15 rfl (?_ : Sd X 20 [(0, 20), (1, 0), (2, 0), (3, 0), (4, 0), (5, 0)] [] _) (?_ : Sd X 18 [(0, 20), (1, 0), (2, 0), (3, 0), (4, 0), (5, 0)] [] _)
  · refine sd_iconst hC dX10_feed_20 ⟨by decide, by decide⟩ (?_ : Sd X 21 [(0, 20), (1, 0), (2, 0), (3, 0), (4, 0), (5, 0)] [0] _)
    refine sd_istore (Γ' := [(0, 20), (1, 0), (2, 0), (3, 0), (4, 0), (5, 0), (6, 0)]) hC dX10_feed_21 (by rw [e2]; decide) (by decide) (?_ : Sd X 23 [(0, 20), (1, 0), (2, 0), (3, 0), (4, 0), (5, 0), (6, 0)] [] _)
    exact Sd.weak (by decide) (S_23)
  · refine sd_iconst hC dX10_feed_18 ⟨by decide, by decide⟩ (?_ : Sd X 19 [(0, 20), (1, 0), (2, 0), (3, 0), (4, 0), (5, 0)] [0] _)
    exact sd_ireturn hC hT dX10_feed_19
theorem hd_X10_fits : yX10_fits.cls ≠ "java/lang/invoke/MethodHandle" ∧ yX10_fits.cls ≠ "java/lang/invoke/VarHandle" ∧ (parseMethodDescriptor yX10_fits.desc).map (fun d => d.parameters.length) = some 4 := by decide +kernel
set_option maxRecDepth 100000 in
set_option maxHeartbeats 4000000 in
theorem M_X10_fits (l : Launch) : Mt l yX10_fits (Cond.code yX10_fits cX10_fits 5 (some .int) :: WALL) { frames := 2, cells := 0, slots := 0, locals := 46 } [20, 0, 0, 0, 0] (some 0) T_X10_fits := by
  refine Mt.mk (B := E_X10_fits) (by decide +kernel) (by decide) (fun _ _ _ hh => hh) ?_
  intro X Q e1 e2 e3 hC hN hT
  subst e1
  have hC : CF X cX10_fits RX10 WALL := hC
  have S_46 : Sd X 46 [(0, 20), (1, 0), (2, 0), (3, 0), (4, 0)] [] (B_X10_fits_46 Q) := by
    unfold B_X10_fits_46
    refine sd_aload_n hC 20 dX10_fits_46 rfl (by decide) (by decide) (?_ : Sd X 47 [(0, 20), (1, 0), (2, 0), (3, 0), (4, 0)] [20] _)
    refine sd_iconst hC dX10_fits_47 ⟨by decide, by decide⟩ (?_ : Sd X 48 [(0, 20), (1, 0), (2, 0), (3, 0), (4, 0)] [0, 20] _)
    refine sd_inv0 (τ := []) (τr := [0]) (ci := 10) (q := (RX10, TX10, 45)) hC WG (M_X10_refused _) rfl rfl rfl rfl  rfl rfl wl_6_72 wl_6_74 wp_63 wl_1_10 wl_6_75 hd_X10_refused (by rw [e3]; decide) (by decide) dX10_fits_48 (?_ : Sd X 51 [(0, 20), (1, 0), (2, 0), (3, 0), (4, 0)] [0] _)
    exact sd_ireturn hC hT dX10_fits_51
  have S_114 : Sd X 114 [(0, 20), (1, 0), (2, 0), (3, 0), (4, 0)] [0, 20] (B_X10_fits_114 Q) := by
    unfold B_X10_fits_114
    refine sd_inv0 (τ := []) (τr := [0]) (ci := 10) (q := (RX10, TX10, 45)) hC WG (M_X10_good _) rfl rfl rfl rfl  rfl rfl wl_7_171 wl_7_173 wp_105 wl_1_10 wl_7_174 hd_X10_good (by rw [e3]; decide) (by decide) dX10_fits_114 (?_ : Sd X 117 [(0, 20), (1, 0), (2, 0), (3, 0), (4, 0)] [0] _)
    exact sd_ireturn hC hT dX10_fits_117
  have S_113 : Sd X 113 [(0, 20), (1, 0), (2, 0), (3, 0), (4, 0)] [20] (B_X10_fits_113 Q) := by
    unfold B_X10_fits_113
    refine sd_iconst hC dX10_fits_113 ⟨by decide, by decide⟩ (?_ : Sd X 114 [(0, 20), (1, 0), (2, 0), (3, 0), (4, 0)] [0, 20] _)
    exact Sd.weak (by decide) (S_114)
  have S_109 : Sd X 109 [(0, 20), (1, 0), (2, 0), (3, 0), (4, 0)] [20] (B_X10_fits_109 Q) := by
    unfold B_X10_fits_109
    refine sd_iconst hC dX10_fits_109 ⟨by decide, by decide⟩ (?_ : Sd X 110 [(0, 20), (1, 0), (2, 0), (3, 0), (4, 0)] [0, 20] _)
    refine sd_goto (tgt := 114) hC dX10_fits_110 rfl (?_ : Sd X 114 [(0, 20), (1, 0), (2, 0), (3, 0), (4, 0)] [0, 20] _)
    exact Sd.weak (by decide) (S_114)
  have S_36 : Sd X 36 [(0, 20), (1, 0), (2, 0), (3, 0), (4, 0)] [] (B_X10_fits_36 Q) := by
    unfold B_X10_fits_36
    refine sd_iload hC dX10_fits_36 (by decide) (?_ : Sd X 38 [(0, 20), (1, 0), (2, 0), (3, 0), (4, 0)] [0] _)
    refine sd_iconst hC dX10_fits_38 ⟨by decide, by decide⟩ (?_ : Sd X 39 [(0, 20), (1, 0), (2, 0), (3, 0), (4, 0)] [0, 0] _)
    refine sd_iconst hC dX10_fits_39 ⟨by decide, by decide⟩ (?_ : Sd X 40 [(0, 20), (1, 0), (2, 0), (3, 0), (4, 0)] [0, 0, 0] _)
    refine sd_invs (τ := []) (τs := [0, 0, 0]) hC false "" WG (M_X10_in _) rfl rfl rfl rfl wl_6_238 wl_6_239 wl_1_10 wl_7_0 hd_X10_in (by rw [e3]; decide) (by decide) dX10_fits_40 (?_ : Sd X 43 [(0, 20), (1, 0), (2, 0), (3, 0), (4, 0)] [0] _)
    refine sd_if_ne (tgt := 52) hC dX10_fits_43 rfl (?_ : Sd X 52 [(0, 20), (1, 0), (2, 0), (3, 0), (4, 0)] [] _) (?_ : Sd X 46 [(0, 20), (1, 0), (2, 0), (3, 0), (4, 0)] [] _)
    · refine sd_aload_n hC 20 dX10_fits_52 rfl (by decide) (by decide) (?_ : Sd X 53 [(0, 20), (1, 0), (2, 0), (3, 0), (4, 0)] [20] _)
      refine sd_iload_n hC dX10_fits_53 rfl (by decide) (?_ : Sd X 54 [(0, 20), (1, 0), (2, 0), (3, 0), (4, 0)] [0, 20] _)
      refine sd_iconst hC dX10_fits_54 ⟨by decide, by decide⟩ (?_ : Sd X 55 [(0, 20), (1, 0), (2, 0), (3, 0), (4, 0)] [0, 0, 20] _)
      refine sd_inv0v (τ := []) (τr := [0, 0]) (ci := 10) (q := (RX10, TX10, 45)) hC WG (M_X10_takes _) rfl rfl rfl rfl  rfl rfl wl_7_103 wl_7_105 wp_90 wl_1_10 wl_7_106 hd_X10_takes (by rw [e3]; decide) (by decide) dX10_fits_55 (?_ : Sd X 58 [(0, 20), (1, 0), (2, 0), (3, 0), (4, 0)] [] _)
      refine sd_aload_n hC 20 dX10_fits_58 rfl (by decide) (by decide) (?_ : Sd X 59 [(0, 20), (1, 0), (2, 0), (3, 0), (4, 0)] [20] _)
      refine sd_iload hC dX10_fits_59 (by decide) (?_ : Sd X 61 [(0, 20), (1, 0), (2, 0), (3, 0), (4, 0)] [0, 20] _)
      refine sd_inv0 (τ := []) (τr := [0]) (ci := 10) (q := (RX10, TX10, 45)) hC WG (M_X10_hasPose _) rfl rfl rfl rfl  rfl rfl wl_7_122 wl_7_124 wp_94 wl_1_10 wl_7_125 hd_X10_hasPose (by rw [e3]; decide) (by decide) dX10_fits_61 (?_ : Sd X 64 [(0, 20), (1, 0), (2, 0), (3, 0), (4, 0)] [0] _)
      refine sd_if_ne (tgt := 73) hC dX10_fits_64 rfl (?_ : Sd X 73 [(0, 20), (1, 0), (2, 0), (3, 0), (4, 0)] [] _) (?_ : Sd X 67 [(0, 20), (1, 0), (2, 0), (3, 0), (4, 0)] [] _)
      · refine sd_aload_n hC 20 dX10_fits_73 rfl (by decide) (by decide) (?_ : Sd X 74 [(0, 20), (1, 0), (2, 0), (3, 0), (4, 0)] [20] _)
        refine sd_iload_n hC dX10_fits_74 rfl (by decide) (?_ : Sd X 75 [(0, 20), (1, 0), (2, 0), (3, 0), (4, 0)] [0, 20] _)
        refine sd_if_eq (tgt := 91) hC dX10_fits_75 rfl (?_ : Sd X 91 [(0, 20), (1, 0), (2, 0), (3, 0), (4, 0)] [20] _) (?_ : Sd X 78 [(0, 20), (1, 0), (2, 0), (3, 0), (4, 0)] [20] _)
        · refine sd_aload_n hC 20 dX10_fits_91 rfl (by decide) (by decide) (?_ : Sd X 92 [(0, 20), (1, 0), (2, 0), (3, 0), (4, 0)] [20, 20] _)
          refine sd_iload hC dX10_fits_92 (by decide) (?_ : Sd X 94 [(0, 20), (1, 0), (2, 0), (3, 0), (4, 0)] [0, 20, 20] _)
          refine sd_inv0 (τ := [20]) (τr := [0]) (ci := 10) (q := (RX10, TX10, 45)) hC WG (M_X10_wideIn _) rfl rfl rfl rfl  rfl rfl wl_7_126 wl_7_128 wp_95 wl_1_10 wl_7_129 hd_X10_wideIn (by rw [e3]; decide) (by decide) dX10_fits_94 (?_ : Sd X 97 [(0, 20), (1, 0), (2, 0), (3, 0), (4, 0)] [0, 20] _)
          refine sd_aload_n hC 20 dX10_fits_97 rfl (by decide) (by decide) (?_ : Sd X 98 [(0, 20), (1, 0), (2, 0), (3, 0), (4, 0)] [20, 0, 20] _)
          refine sd_get hC (ci := 10) (j := 3) (C := RX10) (T := TX10) (N := 45) rfl rfl (by decide) in_X10 wl_5_167 dX10_fits_98 (?_ : Sd X 101 [(0, 20), (1, 0), (2, 0), (3, 0), (4, 0)] [19, 0, 20] _)
          refine sd_getN hC (ci := 9) (j := 6) (C := RX9) (T := TX9) (N := 28) (host := "NarrowRingsModel") rfl rfl (by decide) in_X9 (by decide) dX10_fits_101 (?_ : Sd X 104 [(0, 20), (1, 0), (2, 0), (3, 0), (4, 0)] [100, 0, 20] _)
          refine sd_iload_n hC dX10_fits_104 rfl (by decide) (?_ : Sd X 105 [(0, 20), (1, 0), (2, 0), (3, 0), (4, 0)] [0, 100, 0, 20] _)
          refine sd_iaload hC dX10_fits_105 (?_ : Sd X 106 [(0, 20), (1, 0), (2, 0), (3, 0), (4, 0)] [0, 0, 20] _)
          refine sd_icmp_gt (tgt := 113) hC dX10_fits_106 rfl (?_ : Sd X 113 [(0, 20), (1, 0), (2, 0), (3, 0), (4, 0)] [20] _) (?_ : Sd X 109 [(0, 20), (1, 0), (2, 0), (3, 0), (4, 0)] [20] _)
          · exact Sd.weak (by decide) (S_113)
          · exact Sd.weak (by decide) (S_109)
        · refine sd_aload_n hC 20 dX10_fits_78 rfl (by decide) (by decide) (?_ : Sd X 79 [(0, 20), (1, 0), (2, 0), (3, 0), (4, 0)] [20, 20] _)
          refine sd_iload_n hC dX10_fits_79 rfl (by decide) (?_ : Sd X 80 [(0, 20), (1, 0), (2, 0), (3, 0), (4, 0)] [0, 20, 20] _)
          refine sd_iload hC dX10_fits_80 (by decide) (?_ : Sd X 82 [(0, 20), (1, 0), (2, 0), (3, 0), (4, 0)] [0, 0, 20, 20] _)
          refine sd_inv0 (τ := [20]) (τr := [0, 0]) (ci := 10) (q := (RX10, TX10, 45)) hC WG (M_X10_meets _) rfl rfl rfl rfl  rfl rfl wl_7_143 wl_7_145 wp_99 wl_1_10 wl_7_146 hd_X10_meets (by rw [e3]; decide) (by decide) dX10_fits_82 (?_ : Sd X 85 [(0, 20), (1, 0), (2, 0), (3, 0), (4, 0)] [0, 20] _)
          refine sd_if_ne (tgt := 113) hC dX10_fits_85 rfl (?_ : Sd X 113 [(0, 20), (1, 0), (2, 0), (3, 0), (4, 0)] [20] _) (?_ : Sd X 88 [(0, 20), (1, 0), (2, 0), (3, 0), (4, 0)] [20] _)
          · exact Sd.weak (by decide) (S_113)
          · refine sd_goto (tgt := 109) hC dX10_fits_88 rfl (?_ : Sd X 109 [(0, 20), (1, 0), (2, 0), (3, 0), (4, 0)] [20] _)
            exact Sd.weak (by decide) (S_109)
      · refine sd_aload_n hC 20 dX10_fits_67 rfl (by decide) (by decide) (?_ : Sd X 68 [(0, 20), (1, 0), (2, 0), (3, 0), (4, 0)] [20] _)
        refine sd_iconst hC dX10_fits_68 ⟨by decide, by decide⟩ (?_ : Sd X 69 [(0, 20), (1, 0), (2, 0), (3, 0), (4, 0)] [0, 20] _)
        refine sd_inv0 (τ := []) (τr := [0]) (ci := 10) (q := (RX10, TX10, 45)) hC WG (M_X10_refused _) rfl rfl rfl rfl  rfl rfl wl_6_72 wl_6_74 wp_63 wl_1_10 wl_6_75 hd_X10_refused (by rw [e3]; decide) (by decide) dX10_fits_69 (?_ : Sd X 72 [(0, 20), (1, 0), (2, 0), (3, 0), (4, 0)] [0] _)
        exact sd_ireturn hC hT dX10_fits_72
    · exact Sd.weak (by decide) (S_46)
  refine (?_ : Sd X 0 [(0, 20), (1, 0), (2, 0), (3, 0), (4, 0)] [] (E_X10_fits Q))
  unfold E_X10_fits
  refine sd_aload_n hC 20 dX10_fits_0 rfl (by decide) (by decide) (?_ : Sd X 1 [(0, 20), (1, 0), (2, 0), (3, 0), (4, 0)] [20] _)
  refine sd_iconst hC dX10_fits_1 ⟨by decide, by decide⟩ (?_ : Sd X 2 [(0, 20), (1, 0), (2, 0), (3, 0), (4, 0)] [0, 20] _)
  refine sd_put hC (ci := 10) (j := 0) (C := RX10) (T := TX10) (N := 45) tyX10 tyX10_ok nmX10 rfl rfl (by decide) in_X10 rfl rfl wl_5_164 dX10_fits_2 (?_ : Sd X 5 [(0, 20), (1, 0), (2, 0), (3, 0), (4, 0)] [] _)
  refine sd_aload_n hC 20 dX10_fits_5 rfl (by decide) (by decide) (?_ : Sd X 6 [(0, 20), (1, 0), (2, 0), (3, 0), (4, 0)] [20] _)
  refine sd_iload_n hC dX10_fits_6 rfl (by decide) (?_ : Sd X 7 [(0, 20), (1, 0), (2, 0), (3, 0), (4, 0)] [0, 20] _)
  refine sd_inv0 (τ := []) (τr := [0]) (ci := 10) (q := (RX10, TX10, 45)) hC WG (M_X10_isGood _) rfl rfl rfl rfl  rfl rfl wl_7_195 wl_7_197 wp_107 wl_1_10 wl_7_198 hd_X10_isGood (by rw [e3]; decide) (by decide) dX10_fits_7 (?_ : Sd X 10 [(0, 20), (1, 0), (2, 0), (3, 0), (4, 0)] [0] _)
  refine sd_if_eq (tgt := 46) hC dX10_fits_10 rfl (?_ : Sd X 46 [(0, 20), (1, 0), (2, 0), (3, 0), (4, 0)] [] _) (?_ : Sd X 13 [(0, 20), (1, 0), (2, 0), (3, 0), (4, 0)] [] _)
  · exact Sd.weak (by decide) (S_46)
  · refine sd_iload_n hC dX10_fits_13 rfl (by decide) (?_ : Sd X 14 [(0, 20), (1, 0), (2, 0), (3, 0), (4, 0)] [0] _)
    refine sd_if_eq (tgt := 28) hC dX10_fits_14 rfl (?_ : Sd X 28 [(0, 20), (1, 0), (2, 0), (3, 0), (4, 0)] [] _) (?_ : Sd X 17 [(0, 20), (1, 0), (2, 0), (3, 0), (4, 0)] [] _)
    · refine sd_aload_n hC 20 dX10_fits_28 rfl (by decide) (by decide) (?_ : Sd X 29 [(0, 20), (1, 0), (2, 0), (3, 0), (4, 0)] [20] _)
      refine sd_iload_n hC dX10_fits_29 rfl (by decide) (?_ : Sd X 30 [(0, 20), (1, 0), (2, 0), (3, 0), (4, 0)] [0, 20] _)
      refine sd_inv0 (τ := []) (τr := [0]) (ci := 10) (q := (RX10, TX10, 45)) hC WG (M_X10_isRing _) rfl rfl rfl rfl  rfl rfl wl_7_199 wl_7_201 wp_108 wl_1_10 wl_7_202 hd_X10_isRing (by rw [e3]; decide) (by decide) dX10_fits_30 (?_ : Sd X 33 [(0, 20), (1, 0), (2, 0), (3, 0), (4, 0)] [0] _)
      refine sd_if_eq (tgt := 46) hC dX10_fits_33 rfl (?_ : Sd X 46 [(0, 20), (1, 0), (2, 0), (3, 0), (4, 0)] [] _) (?_ : Sd X 36 [(0, 20), (1, 0), (2, 0), (3, 0), (4, 0)] [] _)
      · exact Sd.weak (by decide) (S_46)
      · exact Sd.weak (by decide) (S_36)
    · refine sd_aload_n hC 20 dX10_fits_17 rfl (by decide) (by decide) (?_ : Sd X 18 [(0, 20), (1, 0), (2, 0), (3, 0), (4, 0)] [20] _)
      refine sd_iload_n hC dX10_fits_18 rfl (by decide) (?_ : Sd X 19 [(0, 20), (1, 0), (2, 0), (3, 0), (4, 0)] [0, 20] _)
      refine sd_inv0 (τ := []) (τr := [0]) (ci := 10) (q := (RX10, TX10, 45)) hC WG (M_X10_isGate _) rfl rfl rfl rfl  rfl rfl wl_7_187 wl_7_189 wp_106 wl_1_10 wl_7_190 hd_X10_isGate (by rw [e3]; decide) (by decide) dX10_fits_19 (?_ : Sd X 22 [(0, 20), (1, 0), (2, 0), (3, 0), (4, 0)] [0] _)
      refine sd_if_eq (tgt := 46) hC dX10_fits_22 rfl (?_ : Sd X 46 [(0, 20), (1, 0), (2, 0), (3, 0), (4, 0)] [] _) (?_ : Sd X 25 [(0, 20), (1, 0), (2, 0), (3, 0), (4, 0)] [] _)
      · exact Sd.weak (by decide) (S_46)
      · refine sd_goto (tgt := 36) hC dX10_fits_25 rfl (?_ : Sd X 36 [(0, 20), (1, 0), (2, 0), (3, 0), (4, 0)] [] _)
        exact Sd.weak (by decide) (S_36)
theorem hd_X10_gate : yX10_gate.cls ≠ "java/lang/invoke/MethodHandle" ∧ yX10_gate.cls ≠ "java/lang/invoke/VarHandle" ∧ (parseMethodDescriptor yX10_gate.desc).map (fun d => d.parameters.length) = some 2 := by decide +kernel
set_option maxRecDepth 100000 in
set_option maxHeartbeats 4000000 in
theorem M_X10_gate (l : Launch) : Mt l yX10_gate (Cond.code yX10_gate cX10_gate 3 (some .int) :: WALL) { frames := 1, cells := 0, slots := 0, locals := 22 } [20, 0, 0] (some 0) T_X10_gate := by
  refine Mt.mk (B := E_X10_gate) (by decide +kernel) (by decide) (fun _ _ _ hh => hh) ?_
  intro X Q e1 e2 e3 hC hN hT
  subst e1
  have hC : CF X cX10_gate RX10 WALL := hC
  have S_41 : Sd X 41 [(0, 20), (1, 0), (2, 0)] [0] (B_X10_gate_41 Q) := by
    unfold B_X10_gate_41
    exact sd_ireturn hC hT dX10_gate_41
  have S_36 : Sd X 36 [(0, 20), (1, 0), (2, 0)] [] (B_X10_gate_36 Q) := by
    unfold B_X10_gate_36
    refine sd_aload_n hC 20 dX10_gate_36 rfl (by decide) (by decide) (?_ : Sd X 37 [(0, 20), (1, 0), (2, 0)] [20] _)
    refine sd_iconst hC dX10_gate_37 ⟨by decide, by decide⟩ (?_ : Sd X 38 [(0, 20), (1, 0), (2, 0)] [0, 20] _)
    refine sd_inv0 (τ := []) (τr := [0]) (ci := 10) (q := (RX10, TX10, 45)) hC WG (M_X10_refused _) rfl rfl rfl rfl  rfl rfl wl_6_72 wl_6_74 wp_63 wl_1_10 wl_6_75 hd_X10_refused (by rw [e3]; decide) (by decide) dX10_gate_38 (?_ : Sd X 41 [(0, 20), (1, 0), (2, 0)] [0] _)
    exact Sd.weak (by decide) (S_41)
  refine (?_ : Sd X 0 [(0, 20), (1, 0), (2, 0)] [] (E_X10_gate Q))
  unfold E_X10_gate
  refine sd_aload_n hC 20 dX10_gate_0 rfl (by decide) (by decide) (?_ : Sd X 1 [(0, 20), (1, 0), (2, 0)] [20] _)
  refine sd_iconst hC dX10_gate_1 ⟨by decide, by decide⟩ (?_ : Sd X 2 [(0, 20), (1, 0), (2, 0)] [0, 20] _)
  refine sd_put hC (ci := 10) (j := 0) (C := RX10) (T := TX10) (N := 45) tyX10 tyX10_ok nmX10 rfl rfl (by decide) in_X10 rfl rfl wl_5_164 dX10_gate_2 (?_ : Sd X 5 [(0, 20), (1, 0), (2, 0)] [] _)
  refine sd_aload_n hC 20 dX10_gate_5 rfl (by decide) (by decide) (?_ : Sd X 6 [(0, 20), (1, 0), (2, 0)] [20] _)
  refine sd_iload_n hC dX10_gate_6 rfl (by decide) (?_ : Sd X 7 [(0, 20), (1, 0), (2, 0)] [0, 20] _)
  refine sd_inv0 (τ := []) (τr := [0]) (ci := 10) (q := (RX10, TX10, 45)) hC WG (M_X10_isGate _) rfl rfl rfl rfl  rfl rfl wl_7_187 wl_7_189 wp_106 wl_1_10 wl_7_190 hd_X10_isGate (by rw [e3]; decide) (by decide) dX10_gate_7 (?_ : Sd X 10 [(0, 20), (1, 0), (2, 0)] [0] _)
  refine sd_if_eq (tgt := 36) hC dX10_gate_10 rfl (?_ : Sd X 36 [(0, 20), (1, 0), (2, 0)] [] _) (?_ : Sd X 13 [(0, 20), (1, 0), (2, 0)] [] _)
  · exact Sd.weak (by decide) (S_36)
  · refine sd_iload_n hC dX10_gate_13 rfl (by decide) (?_ : Sd X 14 [(0, 20), (1, 0), (2, 0)] [0] _)
    refine sd_iconst hC dX10_gate_14 ⟨by decide, by decide⟩ (?_ : Sd X 15 [(0, 20), (1, 0), (2, 0)] [0, 0] _)
    refine sd_bipush hC dX10_gate_15 (by decide) (?_ : Sd X 17 [(0, 20), (1, 0), (2, 0)] [0, 0, 0] _)
    refine sd_invs (τ := []) (τs := [0, 0, 0]) hC false "" WG (M_X10_in _) rfl rfl rfl rfl wl_6_238 wl_6_239 wl_1_10 wl_7_0 hd_X10_in (by rw [e3]; decide) (by decide) dX10_gate_17 (?_ : Sd X 20 [(0, 20), (1, 0), (2, 0)] [0] _)
    refine sd_if_eq (tgt := 36) hC dX10_gate_20 rfl (?_ : Sd X 36 [(0, 20), (1, 0), (2, 0)] [] _) (?_ : Sd X 23 [(0, 20), (1, 0), (2, 0)] [] _)
    · exact Sd.weak (by decide) (S_36)
    · refine sd_aload_n hC 20 dX10_gate_23 rfl (by decide) (by decide) (?_ : Sd X 24 [(0, 20), (1, 0), (2, 0)] [20] _)
      refine sd_aload_n hC 20 dX10_gate_24 rfl (by decide) (by decide) (?_ : Sd X 25 [(0, 20), (1, 0), (2, 0)] [20, 20] _)
      refine sd_iload_n hC dX10_gate_25 rfl (by decide) (?_ : Sd X 26 [(0, 20), (1, 0), (2, 0)] [0, 20, 20] _)
      refine sd_iload_n hC dX10_gate_26 rfl (by decide) (?_ : Sd X 27 [(0, 20), (1, 0), (2, 0)] [0, 0, 20, 20] _)
      refine sd_inv0 (τ := [20]) (τr := [0, 0]) (ci := 10) (q := (RX10, TX10, 45)) hC WG (M_X10_of _) rfl rfl rfl rfl  rfl rfl wl_7_131 wl_7_133 wp_96 wl_1_10 wl_7_134 hd_X10_of (by rw [e3]; decide) (by decide) dX10_gate_27 (?_ : Sd X 30 [(0, 20), (1, 0), (2, 0)] [0, 20] _)
      refine sd_inv0 (τ := []) (τr := [0]) (ci := 10) (q := (RX10, TX10, 45)) hC WG (M_X10_good _) rfl rfl rfl rfl  rfl rfl wl_7_171 wl_7_173 wp_105 wl_1_10 wl_7_174 hd_X10_good (by rw [e3]; decide) (by decide) dX10_gate_30 (?_ : Sd X 33 [(0, 20), (1, 0), (2, 0)] [0] _)
      refine sd_goto (tgt := 41) hC dX10_gate_33 rfl (?_ : Sd X 41 [(0, 20), (1, 0), (2, 0)] [0] _)
      exact Sd.weak (by decide) (S_41)
theorem hd_X10_isOrder : yX10_isOrder.cls ≠ "java/lang/invoke/MethodHandle" ∧ yX10_isOrder.cls ≠ "java/lang/invoke/VarHandle" ∧ (parseMethodDescriptor yX10_isOrder.desc).map (fun d => d.parameters.length) = some 1 := by decide +kernel
set_option maxRecDepth 100000 in
set_option maxHeartbeats 4000000 in
theorem M_X10_isOrder (l : Launch) : Mt l yX10_isOrder (Cond.code yX10_isOrder cX10_isOrder 2 (some .boolean) :: WALL) { frames := 0, cells := 0, slots := 0, locals := 0 } [20, 0] (some 0) T_X10_isOrder := by
  refine Mt.mk (B := E_X10_isOrder) (by decide +kernel) (by decide) (fun _ _ _ hh => hh) ?_
  intro X Q e1 e2 e3 hC hN hT
  subst e1
  have hC : CF X cX10_isOrder RX10 WALL := hC
  have S_27 : Sd X 27 [(0, 20), (1, 0)] [0] (B_X10_isOrder_27 Q) := by
    unfold B_X10_isOrder_27
    exact sd_zreturn hC hT dX10_isOrder_27
  have S_26 : Sd X 26 [(0, 20), (1, 0)] [] (B_X10_isOrder_26 Q) := by
    unfold B_X10_isOrder_26
    refine sd_iconst hC dX10_isOrder_26 ⟨by decide, by decide⟩ (?_ : Sd X 27 [(0, 20), (1, 0)] [0] _)
    exact Sd.weak (by decide) (S_27)
  refine (?_ : Sd X 0 [(0, 20), (1, 0)] [] (E_X10_isOrder Q))
  unfold E_X10_isOrder
  refine sd_aload_n hC 20 dX10_isOrder_0 rfl (by decide) (by decide) (?_ : Sd X 1 [(0, 20), (1, 0)] [20] _)
  refine sd_get hC (ci := 10) (j := 3) (C := RX10) (T := TX10) (N := 45) rfl rfl (by decide) in_X10 wl_5_167 dX10_isOrder_1 (?_ : Sd X 4 [(0, 20), (1, 0)] [19] _)
  refine sd_ifnull (tgt := 26) hC (by decide) dX10_isOrder_4 rfl (?_ : Sd X 26 [(0, 20), (1, 0)] [] _) (?_ : Sd X 7 [(0, 20), (1, 0)] [] _)
  · exact Sd.weak (by decide) (S_26)
  · refine sd_iload_n hC dX10_isOrder_7 rfl (by decide) (?_ : Sd X 8 [(0, 20), (1, 0)] [0] _)
    refine sd_if_lt (tgt := 26) hC dX10_isOrder_8 rfl (?_ : Sd X 26 [(0, 20), (1, 0)] [] _) (?_ : Sd X 11 [(0, 20), (1, 0)] [] _)
    · exact Sd.weak (by decide) (S_26)
    · refine sd_iload_n hC dX10_isOrder_11 rfl (by decide) (?_ : Sd X 12 [(0, 20), (1, 0)] [0] _)
      refine sd_aload_n hC 20 dX10_isOrder_12 rfl (by decide) (by decide) (?_ : Sd X 13 [(0, 20), (1, 0)] [20, 0] _)
      refine sd_get hC (ci := 10) (j := 3) (C := RX10) (T := TX10) (N := 45) rfl rfl (by decide) in_X10 wl_5_167 dX10_isOrder_13 (?_ : Sd X 16 [(0, 20), (1, 0)] [19, 0] _)
      refine sd_getN hC (ci := 9) (j := 4) (C := RX9) (T := TX9) (N := 28) (host := "NarrowRingsModel") rfl rfl (by decide) in_X9 (by decide) dX10_isOrder_16 (?_ : Sd X 19 [(0, 20), (1, 0)] [0, 0] _)
      refine sd_icmp_ge (tgt := 26) hC dX10_isOrder_19 rfl (?_ : Sd X 26 [(0, 20), (1, 0)] [] _) (?_ : Sd X 22 [(0, 20), (1, 0)] [] _)
      · exact Sd.weak (by decide) (S_26)
      · refine sd_iconst hC dX10_isOrder_22 ⟨by decide, by decide⟩ (?_ : Sd X 23 [(0, 20), (1, 0)] [0] _)
        refine sd_goto (tgt := 27) hC dX10_isOrder_23 rfl (?_ : Sd X 27 [(0, 20), (1, 0)] [0] _)
        exact Sd.weak (by decide) (S_27)
theorem wl_7_235 : Cond.methodLink RX10 456 yX10_isOrder ∈ WALL := tb7 (List.mem_of_getElem? (i := 235) rfl) rfl
theorem wl_7_237 : Cond.instanceMethod yX10_isOrder ∈ WALL := tb7 (List.mem_of_getElem? (i := 237) rfl) rfl
theorem wp_111 : Cond.selects RX10 yX10_isOrder yX10_isOrder ∈ WALL := tbS (List.mem_of_getElem? (i := 111) rfl)
theorem wl_7_238 : Cond.code yX10_isOrder cX10_isOrder 2 (some .boolean) ∈ WALL := tb7 (List.mem_of_getElem? (i := 238) rfl) rfl
theorem hd_X10_gateOf : yX10_gateOf.cls ≠ "java/lang/invoke/MethodHandle" ∧ yX10_gateOf.cls ≠ "java/lang/invoke/VarHandle" ∧ (parseMethodDescriptor yX10_gateOf.desc).map (fun d => d.parameters.length) = some 2 := by decide +kernel
set_option maxRecDepth 100000 in
set_option maxHeartbeats 4000000 in
theorem M_X10_gateOf (l : Launch) : Mt l yX10_gateOf (Cond.code yX10_gateOf cX10_gateOf 3 (some .int) :: WALL) { frames := 7, cells := 0, slots := 0, locals := 172 } [20, 0, 0] (some 0) T_X10_gateOf := by
  refine Mt.mk (B := E_X10_gateOf) (by decide +kernel) (by decide) (fun _ _ _ hh => hh) ?_
  intro X Q e1 e2 e3 hC hN hT
  subst e1
  have hC : CF X cX10_gateOf RX10 WALL := hC
  have S_17 : Sd X 17 [(0, 20), (1, 0), (2, 0)] [] (B_X10_gateOf_17 Q) := by
    unfold B_X10_gateOf_17
    refine sd_aload_n hC 20 dX10_gateOf_17 rfl (by decide) (by decide) (?_ : Sd X 18 [(0, 20), (1, 0), (2, 0)] [20] _)
    refine sd_iconst hC dX10_gateOf_18 ⟨by decide, by decide⟩ (?_ : Sd X 19 [(0, 20), (1, 0), (2, 0)] [0, 20] _)
    refine sd_inv0 (τ := []) (τr := [0]) (ci := 10) (q := (RX10, TX10, 45)) hC WG (M_X10_refused _) rfl rfl rfl rfl  rfl rfl wl_6_72 wl_6_74 wp_63 wl_1_10 wl_6_75 hd_X10_refused (by rw [e3]; decide) (by decide) dX10_gateOf_19 (?_ : Sd X 22 [(0, 20), (1, 0), (2, 0)] [0] _)
    exact sd_ireturn hC hT dX10_gateOf_22
  have S_64 : Sd X 64 [(0, 20), (1, 0), (2, 0)] [0] (B_X10_gateOf_64 Q) := by
    unfold B_X10_gateOf_64
    exact sd_ireturn hC hT dX10_gateOf_64
  refine (?_ : Sd X 0 [(0, 20), (1, 0), (2, 0)] [] (E_X10_gateOf Q))
  unfold E_X10_gateOf
  refine sd_aload_n hC 20 dX10_gateOf_0 rfl (by decide) (by decide) (?_ : Sd X 1 [(0, 20), (1, 0), (2, 0)] [20] _)
  refine sd_iconst hC dX10_gateOf_1 ⟨by decide, by decide⟩ (?_ : Sd X 2 [(0, 20), (1, 0), (2, 0)] [0, 20] _)
  refine sd_put hC (ci := 10) (j := 0) (C := RX10) (T := TX10) (N := 45) tyX10 tyX10_ok nmX10 rfl rfl (by decide) in_X10 rfl rfl wl_5_164 dX10_gateOf_2 (?_ : Sd X 5 [(0, 20), (1, 0), (2, 0)] [] _)
  refine sd_aload_n hC 20 dX10_gateOf_5 rfl (by decide) (by decide) (?_ : Sd X 6 [(0, 20), (1, 0), (2, 0)] [20] _)
  refine sd_iload_n hC dX10_gateOf_6 rfl (by decide) (?_ : Sd X 7 [(0, 20), (1, 0), (2, 0)] [0, 20] _)
  refine sd_inv0 (τ := []) (τr := [0]) (ci := 10) (q := (RX10, TX10, 45)) hC WG (M_X10_isOrder _) rfl rfl rfl rfl  rfl rfl wl_7_235 wl_7_237 wp_111 wl_1_10 wl_7_238 hd_X10_isOrder (by rw [e3]; decide) (by decide) dX10_gateOf_7 (?_ : Sd X 10 [(0, 20), (1, 0), (2, 0)] [0] _)
  refine sd_if_eq (tgt := 17) hC dX10_gateOf_10 rfl (?_ : Sd X 17 [(0, 20), (1, 0), (2, 0)] [] _) (?_ : Sd X 13 [(0, 20), (1, 0), (2, 0)] [] _)
  · exact Sd.weak (by decide) (S_17)
  · refine sd_iload_n hC dX10_gateOf_13 rfl (by decide) (?_ : Sd X 14 [(0, 20), (1, 0), (2, 0)] [0] _)
    refine sd_if_ge (tgt := 23) hC dX10_gateOf_14 rfl (?_ : Sd X 23 [(0, 20), (1, 0), (2, 0)] [] _) (?_ : Sd X 17 [(0, 20), (1, 0), (2, 0)] [] _)
    · refine sd_aload_n hC 20 dX10_gateOf_23 rfl (by decide) (by decide) (?_ : Sd X 24 [(0, 20), (1, 0), (2, 0)] [20] _)
      refine sd_iload_n hC dX10_gateOf_24 rfl (by decide) (?_ : Sd X 25 [(0, 20), (1, 0), (2, 0)] [0, 20] _)
      refine sd_inv0 (τ := []) (τr := [0]) (ci := 10) (q := (RX10, TX10, 45)) hC WG (M_X10_findsOrder _) rfl rfl rfl rfl  rfl rfl wl_7_91 wl_7_93 wp_87 wl_1_10 wl_7_94 hd_X10_findsOrder (by rw [e3]; decide) (by decide) dX10_gateOf_25 (?_ : Sd X 28 [(0, 20), (1, 0), (2, 0)] [0] _)
      refine sd_if_ne (tgt := 38) hC dX10_gateOf_28 rfl (?_ : Sd X 38 [(0, 20), (1, 0), (2, 0)] [] _) (?_ : Sd X 31 [(0, 20), (1, 0), (2, 0)] [] _)
      · refine sd_iload_n hC dX10_gateOf_38 rfl (by decide) (?_ : Sd X 39 [(0, 20), (1, 0), (2, 0)] [0] _)
        refine sd_aload_n hC 20 dX10_gateOf_39 rfl (by decide) (by decide) (?_ : Sd X 40 [(0, 20), (1, 0), (2, 0)] [20, 0] _)
        refine sd_get hC (ci := 10) (j := 30) (C := RX10) (T := TX10) (N := 45) rfl rfl (by decide) in_X10 wl_5_194 dX10_gateOf_40 (?_ : Sd X 43 [(0, 20), (1, 0), (2, 0)] [0, 0] _)
        refine sd_icmp_ge (tgt := 59) hC dX10_gateOf_43 rfl (?_ : Sd X 59 [(0, 20), (1, 0), (2, 0)] [] _) (?_ : Sd X 46 [(0, 20), (1, 0), (2, 0)] [] _)
        · refine sd_aload_n hC 20 dX10_gateOf_59 rfl (by decide) (by decide) (?_ : Sd X 60 [(0, 20), (1, 0), (2, 0)] [20] _)
          refine sd_iconst hC dX10_gateOf_60 ⟨by decide, by decide⟩ (?_ : Sd X 61 [(0, 20), (1, 0), (2, 0)] [0, 20] _)
          refine sd_inv0 (τ := []) (τr := [0]) (ci := 10) (q := (RX10, TX10, 45)) hC WG (M_X10_refused _) rfl rfl rfl rfl  rfl rfl wl_6_72 wl_6_74 wp_63 wl_1_10 wl_6_75 hd_X10_refused (by rw [e3]; decide) (by decide) dX10_gateOf_61 (?_ : Sd X 64 [(0, 20), (1, 0), (2, 0)] [0] _)
          exact Sd.weak (by decide) (S_64)
        · refine sd_aload_n hC 20 dX10_gateOf_46 rfl (by decide) (by decide) (?_ : Sd X 47 [(0, 20), (1, 0), (2, 0)] [20] _)
          refine sd_aload_n hC 20 dX10_gateOf_47 rfl (by decide) (by decide) (?_ : Sd X 48 [(0, 20), (1, 0), (2, 0)] [20, 20] _)
          refine sd_get hC (ci := 10) (j := 31) (C := RX10) (T := TX10) (N := 45) rfl rfl (by decide) in_X10 wl_5_195 dX10_gateOf_48 (?_ : Sd X 51 [(0, 20), (1, 0), (2, 0)] [100, 20] _)
          refine sd_iload_n hC dX10_gateOf_51 rfl (by decide) (?_ : Sd X 52 [(0, 20), (1, 0), (2, 0)] [0, 100, 20] _)
          refine sd_iaload hC dX10_gateOf_52 (?_ : Sd X 53 [(0, 20), (1, 0), (2, 0)] [0, 20] _)
          refine sd_inv0 (τ := []) (τr := [0]) (ci := 10) (q := (RX10, TX10, 45)) hC WG (M_X10_good _) rfl rfl rfl rfl  rfl rfl wl_7_171 wl_7_173 wp_105 wl_1_10 wl_7_174 hd_X10_good (by rw [e3]; decide) (by decide) dX10_gateOf_53 (?_ : Sd X 56 [(0, 20), (1, 0), (2, 0)] [0] _)
          refine sd_goto (tgt := 64) hC dX10_gateOf_56 rfl (?_ : Sd X 64 [(0, 20), (1, 0), (2, 0)] [0] _)
          exact Sd.weak (by decide) (S_64)
      · refine sd_aload_n hC 20 dX10_gateOf_31 rfl (by decide) (by decide) (?_ : Sd X 32 [(0, 20), (1, 0), (2, 0)] [20] _)
        refine sd_bipush hC dX10_gateOf_32 (by decide) (?_ : Sd X 34 [(0, 20), (1, 0), (2, 0)] [0, 20] _)
        refine sd_inv0 (τ := []) (τr := [0]) (ci := 10) (q := (RX10, TX10, 45)) hC WG (M_X10_refused _) rfl rfl rfl rfl  rfl rfl wl_6_72 wl_6_74 wp_63 wl_1_10 wl_6_75 hd_X10_refused (by rw [e3]; decide) (by decide) dX10_gateOf_34 (?_ : Sd X 37 [(0, 20), (1, 0), (2, 0)] [0] _)
        exact sd_ireturn hC hT dX10_gateOf_37
    · exact Sd.weak (by decide) (S_17)
theorem hd_X10_holds : yX10_holds.cls ≠ "java/lang/invoke/MethodHandle" ∧ yX10_holds.cls ≠ "java/lang/invoke/VarHandle" ∧ (parseMethodDescriptor yX10_holds.desc).map (fun d => d.parameters.length) = some 1 := by decide +kernel
set_option maxRecDepth 100000 in
set_option maxHeartbeats 4000000 in
theorem M_X10_holds (l : Launch) : Mt l yX10_holds (Cond.code yX10_holds cX10_holds 5 (some .int) :: WALL) { frames := 0, cells := 0, slots := 0, locals := 0 } [20, 0] (some 0) T_X10_holds := by
  refine Mt.mk (B := E_X10_holds) (by decide +kernel) (by decide) (fun _ _ _ hh => hh) ?_
  intro X Q e1 e2 e3 hC hN hT
  subst e1
  have hC : CF X cX10_holds RX10 WALL := hC
  have S_74 : Sd X 74 [(0, 20), (1, 0), (2, 0), (3, 0), (4, 0)] [0] (B_X10_holds_74 Q) := by
    unfold B_X10_holds_74
    exact sd_ireturn hC hT dX10_holds_74
  have S_40 : ∀ (k7 : tK), Sd X 7 [(0, 20), (1, 0), (2, 0), (3, 0), (4, 0)] [] k7 → Sd X 40 [(0, 20), (1, 0), (2, 0), (3, 0), (4, 0)] [0, 0] (B_X10_holds_40 Q k7) := by
    intro k7 h7
    unfold B_X10_holds_40
    refine sd_iadd hC dX10_holds_40 (?_ : Sd X 41 [(0, 20), (1, 0), (2, 0), (3, 0), (4, 0)] [0] _)
    refine sd_istore_n (Γ' := [(0, 20), (1, 0), (2, 0), (3, 0), (4, 0)]) hC dX10_holds_41 rfl (by rw [e2]; decide) (by decide) (?_ : Sd X 42 [(0, 20), (1, 0), (2, 0), (3, 0), (4, 0)] [] _)
    refine sd_iload_n hC dX10_holds_42 rfl (by decide) (?_ : Sd X 43 [(0, 20), (1, 0), (2, 0), (3, 0), (4, 0)] [0] _)
    refine sd_aload_n hC 20 dX10_holds_43 rfl (by decide) (by decide) (?_ : Sd X 44 [(0, 20), (1, 0), (2, 0), (3, 0), (4, 0)] [20, 0] _)
    refine sd_get hC (ci := 10) (j := 3) (C := RX10) (T := TX10) (N := 45) rfl rfl (by decide) in_X10 wl_5_167 dX10_holds_44 (?_ : Sd X 47 [(0, 20), (1, 0), (2, 0), (3, 0), (4, 0)] [19, 0] _)
    refine sd_getN hC (ci := 9) (j := 8) (C := RX9) (T := TX9) (N := 28) (host := "NarrowRingsModel") rfl rfl (by decide) in_X9 (by decide) dX10_holds_47 (?_ : Sd X 50 [(0, 20), (1, 0), (2, 0), (3, 0), (4, 0)] [100, 0] _)
    refine sd_iload hC dX10_holds_50 (by decide) (?_ : Sd X 52 [(0, 20), (1, 0), (2, 0), (3, 0), (4, 0)] [0, 100, 0] _)
    refine sd_iaload hC dX10_holds_52 (?_ : Sd X 53 [(0, 20), (1, 0), (2, 0), (3, 0), (4, 0)] [0, 0] _)
    refine sd_iadd hC dX10_holds_53 (?_ : Sd X 54 [(0, 20), (1, 0), (2, 0), (3, 0), (4, 0)] [0] _)
    refine sd_istore_n (Γ' := [(0, 20), (1, 0), (2, 0), (3, 0), (4, 0)]) hC dX10_holds_54 rfl (by rw [e2]; decide) (by decide) (?_ : Sd X 55 [(0, 20), (1, 0), (2, 0), (3, 0), (4, 0)] [] _)
    refine sd_iinc (Γ' := [(0, 20), (1, 0), (2, 0), (3, 0), (4, 0)]) hC dX10_holds_55 (by decide) (by rw [e2]; decide) (by decide) (?_ : Sd X 58 [(0, 20), (1, 0), (2, 0), (3, 0), (4, 0)] [] _)
    refine sd_goto (tgt := 7) hC dX10_holds_58 rfl (?_ : Sd X 7 [(0, 20), (1, 0), (2, 0), (3, 0), (4, 0)] [] _)
    exact Sd.weak (by decide) h7
  have S_7 : Sd X 7 [(0, 20), (1, 0), (2, 0), (3, 0), (4, 0)] [] (L_X10_holds_7 Q) := by
    unfold L_X10_holds_7
    refine Sd.loop (fun k7 h7 => ?_)
    refine sd_iload hC dX10_holds_7 (by decide) (?_ : Sd X 9 [(0, 20), (1, 0), (2, 0), (3, 0), (4, 0)] [0] _)
    refine sd_aload_n hC 20 dX10_holds_9 rfl (by decide) (by decide) (?_ : Sd X 10 [(0, 20), (1, 0), (2, 0), (3, 0), (4, 0)] [20, 0] _)
    refine sd_get hC (ci := 10) (j := 3) (C := RX10) (T := TX10) (N := 45) rfl rfl (by decide) in_X10 wl_5_167 dX10_holds_10 (?_ : Sd X 13 [(0, 20), (1, 0), (2, 0), (3, 0), (4, 0)] [19, 0] _)
    refine sd_getN hC (ci := 9) (j := 0) (C := RX9) (T := TX9) (N := 28) (host := "NarrowRingsModel") rfl rfl (by decide) in_X9 (by decide) dX10_holds_13 (?_ : Sd X 16 [(0, 20), (1, 0), (2, 0), (3, 0), (4, 0)] [0, 0] _)
    refine sd_icmp_ge (tgt := 61) hC dX10_holds_16 rfl (?_ : Sd X 61 [(0, 20), (1, 0), (2, 0), (3, 0), (4, 0)] [] _) (?_ : Sd X 19 [(0, 20), (1, 0), (2, 0), (3, 0), (4, 0)] [] _)
    · refine sd_iload_n hC dX10_holds_61 rfl (by decide) (?_ : Sd X 62 [(0, 20), (1, 0), (2, 0), (3, 0), (4, 0)] [0] _)
      refine sd_if_ne (tgt := 71) hC dX10_holds_62 rfl (?_ : Sd X 71 [(0, 20), (1, 0), (2, 0), (3, 0), (4, 0)] [] _) (?_ : Sd X 65 [(0, 20), (1, 0), (2, 0), (3, 0), (4, 0)] [] _)
      · refine sd_iload_n hC dX10_holds_71 rfl (by decide) (?_ : Sd X 72 [(0, 20), (1, 0), (2, 0), (3, 0), (4, 0)] [0] _)
        refine sd_iload_n hC dX10_holds_72 rfl (by decide) (?_ : Sd X 73 [(0, 20), (1, 0), (2, 0), (3, 0), (4, 0)] [0, 0] _)
        refine sd_idiv hC dX10_holds_73 (?_ : Sd X 74 [(0, 20), (1, 0), (2, 0), (3, 0), (4, 0)] [0] _)
        exact Sd.weak (by decide) (S_74)
      · refine sd_sipush hC dX10_holds_65 (by decide) (?_ : Sd X 68 [(0, 20), (1, 0), (2, 0), (3, 0), (4, 0)] [0] _)
        refine sd_goto (tgt := 74) hC dX10_holds_68 rfl (?_ : Sd X 74 [(0, 20), (1, 0), (2, 0), (3, 0), (4, 0)] [0] _)
        exact Sd.weak (by decide) (S_74)
    · refine sd_iload_n hC dX10_holds_19 rfl (by decide) (?_ : Sd X 20 [(0, 20), (1, 0), (2, 0), (3, 0), (4, 0)] [0] _)
      refine sd_iload hC dX10_holds_20 (by decide) (?_ : Sd X 22 [(0, 20), (1, 0), (2, 0), (3, 0), (4, 0)] [0, 0] _)
      refine sd_iload_n hC dX10_holds_22 rfl (by decide) (?_ : Sd X 23 [(0, 20), (1, 0), (2, 0), (3, 0), (4, 0)] [0, 0, 0] _)
      refine sd_icmp_lt (tgt := 39) hC dX10_holds_23 rfl (?_ : Sd X 39 [(0, 20), (1, 0), (2, 0), (3, 0), (4, 0)] [0] _) (?_ : Sd X 26 [(0, 20), (1, 0), (2, 0), (3, 0), (4, 0)] [0] _)
      · refine sd_iconst hC dX10_holds_39 ⟨by decide, by decide⟩ (?_ : Sd X 40 [(0, 20), (1, 0), (2, 0), (3, 0), (4, 0)] [0, 0] _)
        exact Sd.weak (by decide) (S_40 k7 h7)
      · refine sd_aload_n hC 20 dX10_holds_26 rfl (by decide) (by decide) (?_ : Sd X 27 [(0, 20), (1, 0), (2, 0), (3, 0), (4, 0)] [20, 0] _)
        refine sd_get hC (ci := 10) (j := 3) (C := RX10) (T := TX10) (N := 45) rfl rfl (by decide) in_X10 wl_5_167 dX10_holds_27 (?_ : Sd X 30 [(0, 20), (1, 0), (2, 0), (3, 0), (4, 0)] [19, 0] _)
        refine sd_getN hC (ci := 9) (j := 7) (C := RX9) (T := TX9) (N := 28) (host := "NarrowRingsModel") rfl rfl (by decide) in_X9 (by decide) dX10_holds_30 (?_ : Sd X 33 [(0, 20), (1, 0), (2, 0), (3, 0), (4, 0)] [100, 0] _)
        refine sd_iload hC dX10_holds_33 (by decide) (?_ : Sd X 35 [(0, 20), (1, 0), (2, 0), (3, 0), (4, 0)] [0, 100, 0] _)
        refine sd_iaload hC dX10_holds_35 (?_ : Sd X 36 [(0, 20), (1, 0), (2, 0), (3, 0), (4, 0)] [0, 0] _)
        refine sd_goto (tgt := 40) hC dX10_holds_36 rfl (?_ : Sd X 40 [(0, 20), (1, 0), (2, 0), (3, 0), (4, 0)] [0, 0] _)
        exact Sd.weak (by decide) (S_40 k7 h7)
  refine (?_ : Sd X 0 [(0, 20), (1, 0)] [] (E_X10_holds Q))
  unfold E_X10_holds
  refine sd_iconst hC dX10_holds_0 ⟨by decide, by decide⟩ (?_ : Sd X 1 [(0, 20), (1, 0)] [0] _)
  refine sd_istore_n (Γ' := [(0, 20), (1, 0), (2, 0)]) hC dX10_holds_1 rfl (by rw [e2]; decide) (by decide) (?_ : Sd X 2 [(0, 20), (1, 0), (2, 0)] [] _)
  refine sd_iconst hC dX10_holds_2 ⟨by decide, by decide⟩ (?_ : Sd X 3 [(0, 20), (1, 0), (2, 0)] [0] _)
  refine sd_istore_n (Γ' := [(0, 20), (1, 0), (2, 0), (3, 0)]) hC dX10_holds_3 rfl (by rw [e2]; decide) (by decide) (?_ : Sd X 4 [(0, 20), (1, 0), (2, 0), (3, 0)] [] _)
  refine sd_iconst hC dX10_holds_4 ⟨by decide, by decide⟩ (?_ : Sd X 5 [(0, 20), (1, 0), (2, 0), (3, 0)] [0] _)
  refine sd_istore (Γ' := [(0, 20), (1, 0), (2, 0), (3, 0), (4, 0)]) hC dX10_holds_5 (by rw [e2]; decide) (by decide) (?_ : Sd X 7 [(0, 20), (1, 0), (2, 0), (3, 0), (4, 0)] [] _)
  exact Sd.weak (by decide) (S_7)
theorem wl_8_146 : Cond.methodLink RX10 520 yX10_holds ∈ WALL := tb8 (List.mem_of_getElem? (i := 146) rfl) rfl
theorem wl_8_148 : Cond.instanceMethod yX10_holds ∈ WALL := tb8 (List.mem_of_getElem? (i := 148) rfl) rfl
theorem wp_128 : Cond.selects RX10 yX10_holds yX10_holds ∈ WALL := tbS (List.mem_of_getElem? (i := 128) rfl)
theorem wl_8_149 : Cond.code yX10_holds cX10_holds 5 (some .int) ∈ WALL := tb8 (List.mem_of_getElem? (i := 149) rfl) rfl
theorem hd_X10_hold : yX10_hold.cls ≠ "java/lang/invoke/MethodHandle" ∧ yX10_hold.cls ≠ "java/lang/invoke/VarHandle" ∧ (parseMethodDescriptor yX10_hold.desc).map (fun d => d.parameters.length) = some 1 := by decide +kernel
set_option maxRecDepth 100000 in
set_option maxHeartbeats 4000000 in
theorem M_X10_hold (l : Launch) : Mt l yX10_hold (Cond.code yX10_hold cX10_hold 2 (some .int) :: WALL) { frames := 1, cells := 0, slots := 0, locals := 24 } [20, 0] (some 0) T_X10_hold := by
  refine Mt.mk (B := E_X10_hold) (by decide +kernel) (by decide) (fun _ _ _ hh => hh) ?_
  intro X Q e1 e2 e3 hC hN hT
  subst e1
  have hC : CF X cX10_hold RX10 WALL := hC
  have S_30 : Sd X 30 [(0, 20), (1, 0)] [0] (B_X10_hold_30 Q) := by
    unfold B_X10_hold_30
    exact sd_ireturn hC hT dX10_hold_30
  refine (?_ : Sd X 0 [(0, 20), (1, 0)] [] (E_X10_hold Q))
  unfold E_X10_hold
  refine sd_aload_n hC 20 dX10_hold_0 rfl (by decide) (by decide) (?_ : Sd X 1 [(0, 20), (1, 0)] [20] _)
  refine sd_iconst hC dX10_hold_1 ⟨by decide, by decide⟩ (?_ : Sd X 2 [(0, 20), (1, 0)] [0, 20] _)
  refine sd_put hC (ci := 10) (j := 0) (C := RX10) (T := TX10) (N := 45) tyX10 tyX10_ok nmX10 rfl rfl (by decide) in_X10 rfl rfl wl_5_164 dX10_hold_2 (?_ : Sd X 5 [(0, 20), (1, 0)] [] _)
  refine sd_aload_n hC 20 dX10_hold_5 rfl (by decide) (by decide) (?_ : Sd X 6 [(0, 20), (1, 0)] [20] _)
  refine sd_iload_n hC dX10_hold_6 rfl (by decide) (?_ : Sd X 7 [(0, 20), (1, 0)] [0, 20] _)
  refine sd_inv0 (τ := []) (τr := [0]) (ci := 10) (q := (RX10, TX10, 45)) hC WG (M_X10_isRing _) rfl rfl rfl rfl  rfl rfl wl_7_199 wl_7_201 wp_108 wl_1_10 wl_7_202 hd_X10_isRing (by rw [e3]; decide) (by decide) dX10_hold_7 (?_ : Sd X 10 [(0, 20), (1, 0)] [0] _)
  refine sd_if_eq (tgt := 25) hC dX10_hold_10 rfl (?_ : Sd X 25 [(0, 20), (1, 0)] [] _) (?_ : Sd X 13 [(0, 20), (1, 0)] [] _)
  · refine sd_aload_n hC 20 dX10_hold_25 rfl (by decide) (by decide) (?_ : Sd X 26 [(0, 20), (1, 0)] [20] _)
    refine sd_iconst hC dX10_hold_26 ⟨by decide, by decide⟩ (?_ : Sd X 27 [(0, 20), (1, 0)] [0, 20] _)
    refine sd_inv0 (τ := []) (τr := [0]) (ci := 10) (q := (RX10, TX10, 45)) hC WG (M_X10_refused _) rfl rfl rfl rfl  rfl rfl wl_6_72 wl_6_74 wp_63 wl_1_10 wl_6_75 hd_X10_refused (by rw [e3]; decide) (by decide) dX10_hold_27 (?_ : Sd X 30 [(0, 20), (1, 0)] [0] _)
    exact Sd.weak (by decide) (S_30)
  · refine sd_aload_n hC 20 dX10_hold_13 rfl (by decide) (by decide) (?_ : Sd X 14 [(0, 20), (1, 0)] [20] _)
    refine sd_aload_n hC 20 dX10_hold_14 rfl (by decide) (by decide) (?_ : Sd X 15 [(0, 20), (1, 0)] [20, 20] _)
    refine sd_iload_n hC dX10_hold_15 rfl (by decide) (?_ : Sd X 16 [(0, 20), (1, 0)] [0, 20, 20] _)
    refine sd_inv0 (τ := [20]) (τr := [0]) (ci := 10) (q := (RX10, TX10, 45)) hC WG (M_X10_holds _) rfl rfl rfl rfl  rfl rfl wl_8_146 wl_8_148 wp_128 wl_1_10 wl_8_149 hd_X10_holds (by rw [e3]; decide) (by decide) dX10_hold_16 (?_ : Sd X 19 [(0, 20), (1, 0)] [0, 20] _)
    refine sd_inv0 (τ := []) (τr := [0]) (ci := 10) (q := (RX10, TX10, 45)) hC WG (M_X10_good _) rfl rfl rfl rfl  rfl rfl wl_7_171 wl_7_173 wp_105 wl_1_10 wl_7_174 hd_X10_good (by rw [e3]; decide) (by decide) dX10_hold_19 (?_ : Sd X 22 [(0, 20), (1, 0)] [0] _)
    refine sd_goto (tgt := 30) hC dX10_hold_22 rfl (?_ : Sd X 30 [(0, 20), (1, 0)] [0] _)
    exact Sd.weak (by decide) (S_30)
theorem wl_7_223 : Cond.methodLink RX10 449 yX10_areTold ∈ WALL := tb7 (List.mem_of_getElem? (i := 223) rfl) rfl
theorem wl_7_225 : Cond.instanceMethod yX10_areTold ∈ WALL := tb7 (List.mem_of_getElem? (i := 225) rfl) rfl
theorem wp_110 : Cond.selects RX10 yX10_areTold yX10_areTold ∈ WALL := tbS (List.mem_of_getElem? (i := 110) rfl)
theorem wl_7_226 : Cond.code yX10_areTold cX10_areTold 6 (some .boolean) ∈ WALL := tb7 (List.mem_of_getElem? (i := 226) rfl) rfl
theorem hd_X10_hours : yX10_hours.cls ≠ "java/lang/invoke/MethodHandle" ∧ yX10_hours.cls ≠ "java/lang/invoke/VarHandle" ∧ (parseMethodDescriptor yX10_hours.desc).map (fun d => d.parameters.length) = some 5 := by decide +kernel
set_option maxRecDepth 100000 in
set_option maxHeartbeats 4000000 in
theorem M_X10_hours (l : Launch) : Mt l yX10_hours (Cond.code yX10_hours cX10_hours 6 (some .int) :: WALL) { frames := 6, cells := 0, slots := 0, locals := 151 } [20, 0, 0, 0, 0, 0] (some 0) T_X10_hours := by
  refine Mt.mk (B := E_X10_hours) (by decide +kernel) (by decide) (fun _ _ _ hh => hh) ?_
  intro X Q e1 e2 e3 hC hN hT
  subst e1
  have hC : CF X cX10_hours RX10 WALL := hC
  have S_49 : Sd X 49 [(0, 20), (1, 0), (2, 0), (3, 0), (4, 0), (5, 0)] [0, 20] (B_X10_hours_49 Q) := by
    unfold B_X10_hours_49
    refine sd_inv0 (τ := []) (τr := [0]) (ci := 10) (q := (RX10, TX10, 45)) hC WG (M_X10_good _) rfl rfl rfl rfl  rfl rfl wl_7_171 wl_7_173 wp_105 wl_1_10 wl_7_174 hd_X10_good (by rw [e3]; decide) (by decide) dX10_hours_49 (?_ : Sd X 52 [(0, 20), (1, 0), (2, 0), (3, 0), (4, 0), (5, 0)] [0] _)
    exact sd_ireturn hC hT dX10_hours_52
  refine (?_ : Sd X 0 [(0, 20), (1, 0), (2, 0), (3, 0), (4, 0), (5, 0)] [] (E_X10_hours Q))
  unfold E_X10_hours
  refine sd_aload_n hC 20 dX10_hours_0 rfl (by decide) (by decide) (?_ : Sd X 1 [(0, 20), (1, 0), (2, 0), (3, 0), (4, 0), (5, 0)] [20] _)
  refine sd_iconst hC dX10_hours_1 ⟨by decide, by decide⟩ (?_ : Sd X 2 [(0, 20), (1, 0), (2, 0), (3, 0), (4, 0), (5, 0)] [0, 20] _)
  refine sd_put hC (ci := 10) (j := 0) (C := RX10) (T := TX10) (N := 45) tyX10 tyX10_ok nmX10 rfl rfl (by decide) in_X10 rfl rfl wl_5_164 dX10_hours_2 (?_ : Sd X 5 [(0, 20), (1, 0), (2, 0), (3, 0), (4, 0), (5, 0)] [] _)
  refine sd_aload_n hC 20 dX10_hours_5 rfl (by decide) (by decide) (?_ : Sd X 6 [(0, 20), (1, 0), (2, 0), (3, 0), (4, 0), (5, 0)] [20] _)
  refine sd_iload_n hC dX10_hours_6 rfl (by decide) (?_ : Sd X 7 [(0, 20), (1, 0), (2, 0), (3, 0), (4, 0), (5, 0)] [0, 20] _)
  refine sd_iload_n hC dX10_hours_7 rfl (by decide) (?_ : Sd X 8 [(0, 20), (1, 0), (2, 0), (3, 0), (4, 0), (5, 0)] [0, 0, 20] _)
  refine sd_iload_n hC dX10_hours_8 rfl (by decide) (?_ : Sd X 9 [(0, 20), (1, 0), (2, 0), (3, 0), (4, 0), (5, 0)] [0, 0, 0, 20] _)
  refine sd_iload hC dX10_hours_9 (by decide) (?_ : Sd X 11 [(0, 20), (1, 0), (2, 0), (3, 0), (4, 0), (5, 0)] [0, 0, 0, 0, 20] _)
  refine sd_iload hC dX10_hours_11 (by decide) (?_ : Sd X 13 [(0, 20), (1, 0), (2, 0), (3, 0), (4, 0), (5, 0)] [0, 0, 0, 0, 0, 20] _)
  refine sd_inv0 (τ := []) (τr := [0, 0, 0, 0, 0]) (ci := 10) (q := (RX10, TX10, 45)) hC WG (M_X10_areTold _) rfl rfl rfl rfl  rfl rfl wl_7_223 wl_7_225 wp_110 wl_1_10 wl_7_226 hd_X10_areTold (by rw [e3]; decide) (by decide) dX10_hours_13 (?_ : Sd X 16 [(0, 20), (1, 0), (2, 0), (3, 0), (4, 0), (5, 0)] [0] _)
  refine sd_if_ne (tgt := 25) hC dX10_hours_16 rfl (?_ : Sd X 25 [(0, 20), (1, 0), (2, 0), (3, 0), (4, 0), (5, 0)] [] _) (?_ : Sd X 19 [(0, 20), (1, 0), (2, 0), (3, 0), (4, 0), (5, 0)] [] _)
  · refine sd_aload_n hC 20 dX10_hours_25 rfl (by decide) (by decide) (?_ : Sd X 26 [(0, 20), (1, 0), (2, 0), (3, 0), (4, 0), (5, 0)] [20] _)
    refine sd_aload_n hC 20 dX10_hours_26 rfl (by decide) (by decide) (?_ : Sd X 27 [(0, 20), (1, 0), (2, 0), (3, 0), (4, 0), (5, 0)] [20, 20] _)
    refine sd_iload_n hC dX10_hours_27 rfl (by decide) (?_ : Sd X 28 [(0, 20), (1, 0), (2, 0), (3, 0), (4, 0), (5, 0)] [0, 20, 20] _)
    refine sd_iload_n hC dX10_hours_28 rfl (by decide) (?_ : Sd X 29 [(0, 20), (1, 0), (2, 0), (3, 0), (4, 0), (5, 0)] [0, 0, 20, 20] _)
    refine sd_iload_n hC dX10_hours_29 rfl (by decide) (?_ : Sd X 30 [(0, 20), (1, 0), (2, 0), (3, 0), (4, 0), (5, 0)] [0, 0, 0, 20, 20] _)
    refine sd_iload hC dX10_hours_30 (by decide) (?_ : Sd X 32 [(0, 20), (1, 0), (2, 0), (3, 0), (4, 0), (5, 0)] [0, 0, 0, 0, 20, 20] _)
    refine sd_iload hC dX10_hours_32 (by decide) (?_ : Sd X 34 [(0, 20), (1, 0), (2, 0), (3, 0), (4, 0), (5, 0)] [0, 0, 0, 0, 0, 20, 20] _)
    refine sd_inv0 (τ := [20]) (τr := [0, 0, 0, 0, 0]) (ci := 10) (q := (RX10, TX10, 45)) hC WG (M_X10_finds _) rfl rfl rfl rfl  rfl rfl wl_7_95 wl_7_97 wp_88 wl_1_10 wl_7_98 hd_X10_finds (by rw [e3]; decide) (by decide) dX10_hours_34 (?_ : Sd X 37 [(0, 20), (1, 0), (2, 0), (3, 0), (4, 0), (5, 0)] [0, 20] _)
    refine sd_if_eq (tgt := 47) hC dX10_hours_37 rfl (?_ : Sd X 47 [(0, 20), (1, 0), (2, 0), (3, 0), (4, 0), (5, 0)] [20] _) (?_ : Sd X 40 [(0, 20), (1, 0), (2, 0), (3, 0), (4, 0), (5, 0)] [20] _)
    · refine sd_bipush hC dX10_hours_47 (by decide) (?_ : Sd X 49 [(0, 20), (1, 0), (2, 0), (3, 0), (4, 0), (5, 0)] [0, 20] _)
      exact Sd.weak (by decide) (S_49)
    · refine sd_aload_n hC 20 dX10_hours_40 rfl (by decide) (by decide) (?_ : Sd X 41 [(0, 20), (1, 0), (2, 0), (3, 0), (4, 0), (5, 0)] [20, 20] _)
      refine sd_get hC (ci := 10) (j := 29) (C := RX10) (T := TX10) (N := 45) rfl rfl (by decide) in_X10 wl_5_193 dX10_hours_41 (?_ : Sd X 44 [(0, 20), (1, 0), (2, 0), (3, 0), (4, 0), (5, 0)] [0, 20] _)
      refine sd_goto (tgt := 49) hC dX10_hours_44 rfl (?_ : Sd X 49 [(0, 20), (1, 0), (2, 0), (3, 0), (4, 0), (5, 0)] [0, 20] _)
      exact Sd.weak (by decide) (S_49)
  · refine sd_aload_n hC 20 dX10_hours_19 rfl (by decide) (by decide) (?_ : Sd X 20 [(0, 20), (1, 0), (2, 0), (3, 0), (4, 0), (5, 0)] [20] _)
    refine sd_iconst hC dX10_hours_20 ⟨by decide, by decide⟩ (?_ : Sd X 21 [(0, 20), (1, 0), (2, 0), (3, 0), (4, 0), (5, 0)] [0, 20] _)
    refine sd_inv0 (τ := []) (τr := [0]) (ci := 10) (q := (RX10, TX10, 45)) hC WG (M_X10_refused _) rfl rfl rfl rfl  rfl rfl wl_6_72 wl_6_74 wp_63 wl_1_10 wl_6_75 hd_X10_refused (by rw [e3]; decide) (by decide) dX10_hours_21 (?_ : Sd X 24 [(0, 20), (1, 0), (2, 0), (3, 0), (4, 0), (5, 0)] [0] _)
    exact sd_ireturn hC hT dX10_hours_24

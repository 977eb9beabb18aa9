theorem wl_8_159 : Cond.methodLink RX10 528 yX10_spreads ∈ WALL := tb8 (List.mem_of_getElem? (i := 159) rfl) rfl
theorem wl_8_161 : Cond.instanceMethod yX10_spreads ∈ WALL := tb8 (List.mem_of_getElem? (i := 161) rfl) rfl
theorem wp_129 : Cond.selects RX10 yX10_spreads yX10_spreads ∈ WALL := tbS (List.mem_of_getElem? (i := 129) rfl)
theorem wl_8_162 : Cond.code yX10_spreads cX10_spreads 5 none ∈ WALL := tb8 (List.mem_of_getElem? (i := 162) rfl) rfl
theorem wl_8_158 : Cond.constant RX10 527 (Int32.ofInt 1048576) ∈ WALL := tb8 (List.mem_of_getElem? (i := 158) rfl) rfl
theorem hd_X10_theft : yX10_theft.cls ≠ "java/lang/invoke/MethodHandle" ∧ yX10_theft.cls ≠ "java/lang/invoke/VarHandle" ∧ (parseMethodDescriptor yX10_theft.desc).map (fun d => d.parameters.length) = some 5 := by decide +kernel
set_option maxRecDepth 100000 in
set_option maxHeartbeats 4000000 in
theorem M_X10_theft (l : Launch) : Mt l yX10_theft (Cond.code yX10_theft cX10_theft 11 (some .int) :: WALL) { frames := 5, cells := 0, slots := 0, locals := 114 } [20, 0, 0, 0, 0, 0] (some 0) T_X10_theft := by
  refine Mt.mk (B := E_X10_theft) (by decide +kernel) (by decide) (fun _ _ _ hh => hh) ?_
  intro X Q e1 e2 e3 hC hN hT
  subst e1
  have hC : CF X cX10_theft RX10 WALL := hC
  have S_31 : Sd X 31 [(0, 20), (1, 0), (2, 0), (3, 0), (4, 0), (5, 0)] [] (B_X10_theft_31 Q) := by
    unfold B_X10_theft_31
    refine sd_aload_n hC 20 dX10_theft_31 rfl (by decide) (by decide) (?_ : Sd X 32 [(0, 20), (1, 0), (2, 0), (3, 0), (4, 0), (5, 0)] [20] _)
    refine sd_iconst hC dX10_theft_32 ⟨by decide, by decide⟩ (?_ : Sd X 33 [(0, 20), (1, 0), (2, 0), (3, 0), (4, 0), (5, 0)] [0, 20] _)
    refine sd_inv0 (τ := []) (τr := [0]) (ci := 10) (q := (RX10, TX10, 45)) hC WG (M_X10_refused _) rfl rfl rfl rfl  rfl rfl wl_6_72 wl_6_74 wp_63 wl_1_10 wl_6_75 hd_X10_refused (by rw [e3]; decide) (by decide) dX10_theft_33 (?_ : Sd X 36 [(0, 20), (1, 0), (2, 0), (3, 0), (4, 0), (5, 0)] [0] _)
    exact sd_ireturn hC hT dX10_theft_36
  have S_308 : ∀ (k186 : tK), Sd X 186 [(0, 20), (1, 0), (2, 0), (3, 0), (4, 0), (5, 0), (6, 0), (7, 0)] [] k186 → Sd X 308 [(0, 20), (1, 0), (2, 0), (3, 0), (4, 0), (5, 0), (6, 0), (7, 0)] [] (B_X10_theft_308 Q k186) := by
    intro k186 h186
    unfold B_X10_theft_308
    refine sd_iinc (Γ' := [(0, 20), (1, 0), (2, 0), (3, 0), (4, 0), (5, 0), (6, 0), (7, 0)]) hC dX10_theft_308 (by decide) (by rw [e2]; decide) (by decide) (?_ : Sd X 311 [(0, 20), (1, 0), (2, 0), (3, 0), (4, 0), (5, 0), (6, 0), (7, 0)] [] _)
    refine sd_goto (tgt := 186) hC dX10_theft_311 rfl (?_ : Sd X 186 [(0, 20), (1, 0), (2, 0), (3, 0), (4, 0), (5, 0), (6, 0), (7, 0)] [] _)
    exact Sd.weak (by decide) h186
  have S_305 : ∀ (k186 : tK), Sd X 186 [(0, 20), (1, 0), (2, 0), (3, 0), (4, 0), (5, 0), (6, 0), (7, 0)] [] k186 → Sd X 305 [(0, 20), (1, 0), (2, 0), (3, 0), (4, 0), (5, 0), (6, 0), (7, 0), (8, 0), (9, 0), (10, 0)] [0, 0] (B_X10_theft_305 Q k186) := by
    intro k186 h186
    unfold B_X10_theft_305
    refine sd_ior hC dX10_theft_305 (?_ : Sd X 306 [(0, 20), (1, 0), (2, 0), (3, 0), (4, 0), (5, 0), (6, 0), (7, 0), (8, 0), (9, 0), (10, 0)] [0] _)
    refine sd_istore (Γ' := [(0, 20), (1, 0), (2, 0), (3, 0), (4, 0), (5, 0), (6, 0), (7, 0), (8, 0), (9, 0), (10, 0)]) hC dX10_theft_306 (by rw [e2]; decide) (by decide) (?_ : Sd X 308 [(0, 20), (1, 0), (2, 0), (3, 0), (4, 0), (5, 0), (6, 0), (7, 0), (8, 0), (9, 0), (10, 0)] [] _)
    exact Sd.weak (by decide) (S_308 k186 h186)
  have S_297 : ∀ (k186 : tK), Sd X 186 [(0, 20), (1, 0), (2, 0), (3, 0), (4, 0), (5, 0), (6, 0), (7, 0)] [] k186 → Sd X 297 [(0, 20), (1, 0), (2, 0), (3, 0), (4, 0), (5, 0), (6, 0), (7, 0), (8, 0), (9, 0), (10, 0)] [0] (B_X10_theft_297 Q k186) := by
    intro k186 h186
    unfold B_X10_theft_297
    refine sd_iconst hC dX10_theft_297 ⟨by decide, by decide⟩ (?_ : Sd X 298 [(0, 20), (1, 0), (2, 0), (3, 0), (4, 0), (5, 0), (6, 0), (7, 0), (8, 0), (9, 0), (10, 0)] [0, 0] _)
    refine sd_iload hC dX10_theft_298 (by decide) (?_ : Sd X 300 [(0, 20), (1, 0), (2, 0), (3, 0), (4, 0), (5, 0), (6, 0), (7, 0), (8, 0), (9, 0), (10, 0)] [0, 0, 0] _)
    refine sd_ishl hC dX10_theft_300 (?_ : Sd X 301 [(0, 20), (1, 0), (2, 0), (3, 0), (4, 0), (5, 0), (6, 0), (7, 0), (8, 0), (9, 0), (10, 0)] [0, 0] _)
    refine sd_goto (tgt := 305) hC dX10_theft_301 rfl (?_ : Sd X 305 [(0, 20), (1, 0), (2, 0), (3, 0), (4, 0), (5, 0), (6, 0), (7, 0), (8, 0), (9, 0), (10, 0)] [0, 0] _)
    exact Sd.weak (by decide) (S_305 k186 h186)
  have S_186 : Sd X 186 [(0, 20), (1, 0), (2, 0), (3, 0), (4, 0), (5, 0), (6, 0), (7, 0)] [] (L_X10_theft_186 Q) := by
    unfold L_X10_theft_186
    refine Sd.loop (fun k186 h186 => ?_)
    refine sd_iload hC dX10_theft_186 (by decide) (?_ : Sd X 188 [(0, 20), (1, 0), (2, 0), (3, 0), (4, 0), (5, 0), (6, 0), (7, 0)] [0] _)
    refine sd_aload_n hC 20 dX10_theft_188 rfl (by decide) (by decide) (?_ : Sd X 189 [(0, 20), (1, 0), (2, 0), (3, 0), (4, 0), (5, 0), (6, 0), (7, 0)] [20, 0] _)
    refine sd_get hC (ci := 10) (j := 17) (C := RX10) (T := TX10) (N := 45) rfl rfl (by decide) in_X10 wl_5_181 dX10_theft_189 (?_ : Sd X 192 [(0, 20), (1, 0), (2, 0), (3, 0), (4, 0), (5, 0), (6, 0), (7, 0)] [0, 0] _)
    refine sd_icmp_ge (tgt := 314) hC dX10_theft_192 rfl (?_ : Sd X 314 [(0, 20), (1, 0), (2, 0), (3, 0), (4, 0), (5, 0), (6, 0), (7, 0)] [] _) (?_ : Sd X 195 [(0, 20), (1, 0), (2, 0), (3, 0), (4, 0), (5, 0), (6, 0), (7, 0)] [] _)
    · refine sd_aload_n hC 20 dX10_theft_314 rfl (by decide) (by decide) (?_ : Sd X 315 [(0, 20), (1, 0), (2, 0), (3, 0), (4, 0), (5, 0), (6, 0), (7, 0)] [20] _)
      refine sd_iload hC dX10_theft_315 (by decide) (?_ : Sd X 317 [(0, 20), (1, 0), (2, 0), (3, 0), (4, 0), (5, 0), (6, 0), (7, 0)] [0, 20] _)
      refine sd_inv0 (τ := []) (τr := [0]) (ci := 10) (q := (RX10, TX10, 45)) hC WG (M_X10_good _) rfl rfl rfl rfl  rfl rfl wl_7_171 wl_7_173 wp_105 wl_1_10 wl_7_174 hd_X10_good (by rw [e3]; decide) (by decide) dX10_theft_317 (?_ : Sd X 320 [(0, 20), (1, 0), (2, 0), (3, 0), (4, 0), (5, 0), (6, 0), (7, 0)] [0] _)
      exact sd_ireturn hC hT dX10_theft_320
    · refine sd_aload_n hC 20 dX10_theft_195 rfl (by decide) (by decide) (?_ : Sd X 196 [(0, 20), (1, 0), (2, 0), (3, 0), (4, 0), (5, 0), (6, 0), (7, 0)] [20] _)
      refine sd_iload hC dX10_theft_196 (by decide) (?_ : Sd X 198 [(0, 20), (1, 0), (2, 0), (3, 0), (4, 0), (5, 0), (6, 0), (7, 0)] [0, 20] _)
      refine sd_inv0 (τ := []) (τr := [0]) (ci := 10) (q := (RX10, TX10, 45)) hC WG (M_X10_goesThrough _) rfl rfl rfl rfl  rfl rfl wl_7_135 wl_7_137 wp_97 wl_1_10 wl_7_138 hd_X10_goesThrough (by rw [e3]; decide) (by decide) dX10_theft_198 (?_ : Sd X 201 [(0, 20), (1, 0), (2, 0), (3, 0), (4, 0), (5, 0), (6, 0), (7, 0)] [0] _)
      refine sd_if_ne (tgt := 207) hC dX10_theft_201 rfl (?_ : Sd X 207 [(0, 20), (1, 0), (2, 0), (3, 0), (4, 0), (5, 0), (6, 0), (7, 0)] [] _) (?_ : Sd X 204 [(0, 20), (1, 0), (2, 0), (3, 0), (4, 0), (5, 0), (6, 0), (7, 0)] [] _)
      · refine sd_bipush hC dX10_theft_207 (by decide) (?_ : Sd X 209 [(0, 20), (1, 0), (2, 0), (3, 0), (4, 0), (5, 0), (6, 0), (7, 0)] [0] _)
        refine sd_aload_n hC 20 dX10_theft_209 rfl (by decide) (by decide) (?_ : Sd X 210 [(0, 20), (1, 0), (2, 0), (3, 0), (4, 0), (5, 0), (6, 0), (7, 0)] [20, 0] _)
        refine sd_iload hC dX10_theft_210 (by decide) (?_ : Sd X 212 [(0, 20), (1, 0), (2, 0), (3, 0), (4, 0), (5, 0), (6, 0), (7, 0)] [0, 20, 0] _)
        refine sd_iconst hC dX10_theft_212 ⟨by decide, by decide⟩ (?_ : Sd X 213 [(0, 20), (1, 0), (2, 0), (3, 0), (4, 0), (5, 0), (6, 0), (7, 0)] [0, 0, 20, 0] _)
        refine sd_inv0 (τ := [0]) (τr := [0, 0]) (ci := 10) (q := (RX10, TX10, 45)) hC WG (M_X10_of _) rfl rfl rfl rfl  rfl rfl wl_7_131 wl_7_133 wp_96 wl_1_10 wl_7_134 hd_X10_of (by rw [e3]; decide) (by decide) dX10_theft_213 (?_ : Sd X 216 [(0, 20), (1, 0), (2, 0), (3, 0), (4, 0), (5, 0), (6, 0), (7, 0)] [0, 0] _)
        refine sd_imul hC dX10_theft_216 (?_ : Sd X 217 [(0, 20), (1, 0), (2, 0), (3, 0), (4, 0), (5, 0), (6, 0), (7, 0)] [0] _)
        refine sd_aload_n hC 20 dX10_theft_217 rfl (by decide) (by decide) (?_ : Sd X 218 [(0, 20), (1, 0), (2, 0), (3, 0), (4, 0), (5, 0), (6, 0), (7, 0)] [20, 0] _)
        refine sd_iload hC dX10_theft_218 (by decide) (?_ : Sd X 220 [(0, 20), (1, 0), (2, 0), (3, 0), (4, 0), (5, 0), (6, 0), (7, 0)] [0, 20, 0] _)
        refine sd_iconst hC dX10_theft_220 ⟨by decide, by decide⟩ (?_ : Sd X 221 [(0, 20), (1, 0), (2, 0), (3, 0), (4, 0), (5, 0), (6, 0), (7, 0)] [0, 0, 20, 0] _)
        refine sd_inv0 (τ := [0]) (τr := [0, 0]) (ci := 10) (q := (RX10, TX10, 45)) hC WG (M_X10_of _) rfl rfl rfl rfl  rfl rfl wl_7_131 wl_7_133 wp_96 wl_1_10 wl_7_134 hd_X10_of (by rw [e3]; decide) (by decide) dX10_theft_221 (?_ : Sd X 224 [(0, 20), (1, 0), (2, 0), (3, 0), (4, 0), (5, 0), (6, 0), (7, 0)] [0, 0] _)
        refine sd_iadd hC dX10_theft_224 (?_ : Sd X 225 [(0, 20), (1, 0), (2, 0), (3, 0), (4, 0), (5, 0), (6, 0), (7, 0)] [0] _)
        refine sd_istore (Γ' := [(0, 20), (1, 0), (2, 0), (3, 0), (4, 0), (5, 0), (6, 0), (7, 0), (8, 0)]) hC dX10_theft_225 (by rw [e2]; decide) (by decide) (?_ : Sd X 227 [(0, 20), (1, 0), (2, 0), (3, 0), (4, 0), (5, 0), (6, 0), (7, 0), (8, 0)] [] _)
        refine sd_aload_n hC 20 dX10_theft_227 rfl (by decide) (by decide) (?_ : Sd X 228 [(0, 20), (1, 0), (2, 0), (3, 0), (4, 0), (5, 0), (6, 0), (7, 0), (8, 0)] [20] _)
        refine sd_get hC (ci := 10) (j := 40) (C := RX10) (T := TX10) (N := 45) rfl rfl (by decide) in_X10 wl_5_204 dX10_theft_228 (?_ : Sd X 231 [(0, 20), (1, 0), (2, 0), (3, 0), (4, 0), (5, 0), (6, 0), (7, 0), (8, 0)] [100] _)
        refine sd_iload hC dX10_theft_231 (by decide) (?_ : Sd X 233 [(0, 20), (1, 0), (2, 0), (3, 0), (4, 0), (5, 0), (6, 0), (7, 0), (8, 0)] [0, 100] _)
        refine sd_iaload hC dX10_theft_233 (?_ : Sd X 234 [(0, 20), (1, 0), (2, 0), (3, 0), (4, 0), (5, 0), (6, 0), (7, 0), (8, 0)] [0] _)
        refine sd_aload_n hC 20 dX10_theft_234 rfl (by decide) (by decide) (?_ : Sd X 235 [(0, 20), (1, 0), (2, 0), (3, 0), (4, 0), (5, 0), (6, 0), (7, 0), (8, 0)] [20, 0] _)
        refine sd_iload hC dX10_theft_235 (by decide) (?_ : Sd X 237 [(0, 20), (1, 0), (2, 0), (3, 0), (4, 0), (5, 0), (6, 0), (7, 0), (8, 0)] [0, 20, 0] _)
        refine sd_inv0 (τ := [0]) (τr := [0]) (ci := 10) (q := (RX10, TX10, 45)) hC WG (M_X10_hoursAt _) rfl rfl rfl rfl  rfl rfl wl_7_159 wl_7_161 wp_103 wl_1_10 wl_7_162 hd_X10_hoursAt (by rw [e3]; decide) (by decide) dX10_theft_237 (?_ : Sd X 240 [(0, 20), (1, 0), (2, 0), (3, 0), (4, 0), (5, 0), (6, 0), (7, 0), (8, 0)] [0, 0] _)
        refine sd_iadd hC dX10_theft_240 (?_ : Sd X 241 [(0, 20), (1, 0), (2, 0), (3, 0), (4, 0), (5, 0), (6, 0), (7, 0), (8, 0)] [0] _)
        refine sd_aload_n hC 20 dX10_theft_241 rfl (by decide) (by decide) (?_ : Sd X 242 [(0, 20), (1, 0), (2, 0), (3, 0), (4, 0), (5, 0), (6, 0), (7, 0), (8, 0)] [20, 0] _)
        refine sd_get hC (ci := 10) (j := 41) (C := RX10) (T := TX10) (N := 45) rfl rfl (by decide) in_X10 wl_5_205 dX10_theft_242 (?_ : Sd X 245 [(0, 20), (1, 0), (2, 0), (3, 0), (4, 0), (5, 0), (6, 0), (7, 0), (8, 0)] [100, 0] _)
        refine sd_iload hC dX10_theft_245 (by decide) (?_ : Sd X 247 [(0, 20), (1, 0), (2, 0), (3, 0), (4, 0), (5, 0), (6, 0), (7, 0), (8, 0)] [0, 100, 0] _)
        refine sd_bipush hC dX10_theft_247 (by decide) (?_ : Sd X 249 [(0, 20), (1, 0), (2, 0), (3, 0), (4, 0), (5, 0), (6, 0), (7, 0), (8, 0)] [0, 0, 100, 0] _)
        refine sd_iadd hC dX10_theft_249 (?_ : Sd X 250 [(0, 20), (1, 0), (2, 0), (3, 0), (4, 0), (5, 0), (6, 0), (7, 0), (8, 0)] [0, 100, 0] _)
        refine sd_iaload hC dX10_theft_250 (?_ : Sd X 251 [(0, 20), (1, 0), (2, 0), (3, 0), (4, 0), (5, 0), (6, 0), (7, 0), (8, 0)] [0, 0] _)
        refine sd_iadd hC dX10_theft_251 (?_ : Sd X 252 [(0, 20), (1, 0), (2, 0), (3, 0), (4, 0), (5, 0), (6, 0), (7, 0), (8, 0)] [0] _)
        refine sd_istore (Γ' := [(0, 20), (1, 0), (2, 0), (3, 0), (4, 0), (5, 0), (6, 0), (7, 0), (8, 0), (9, 0)]) hC dX10_theft_252 (by rw [e2]; decide) (by decide) (?_ : Sd X 254 [(0, 20), (1, 0), (2, 0), (3, 0), (4, 0), (5, 0), (6, 0), (7, 0), (8, 0), (9, 0)] [] _)
        refine sd_aload_n hC 20 dX10_theft_254 rfl (by decide) (by decide) (?_ : Sd X 255 [(0, 20), (1, 0), (2, 0), (3, 0), (4, 0), (5, 0), (6, 0), (7, 0), (8, 0), (9, 0)] [20] _)
        refine sd_get hC (ci := 10) (j := 40) (C := RX10) (T := TX10) (N := 45) rfl rfl (by decide) in_X10 wl_5_204 dX10_theft_255 (?_ : Sd X 258 [(0, 20), (1, 0), (2, 0), (3, 0), (4, 0), (5, 0), (6, 0), (7, 0), (8, 0), (9, 0)] [100] _)
        refine sd_iload hC dX10_theft_258 (by decide) (?_ : Sd X 260 [(0, 20), (1, 0), (2, 0), (3, 0), (4, 0), (5, 0), (6, 0), (7, 0), (8, 0), (9, 0)] [0, 100] _)
        refine sd_bipush hC dX10_theft_260 (by decide) (?_ : Sd X 262 [(0, 20), (1, 0), (2, 0), (3, 0), (4, 0), (5, 0), (6, 0), (7, 0), (8, 0), (9, 0)] [0, 0, 100] _)
        refine sd_iadd hC dX10_theft_262 (?_ : Sd X 263 [(0, 20), (1, 0), (2, 0), (3, 0), (4, 0), (5, 0), (6, 0), (7, 0), (8, 0), (9, 0)] [0, 100] _)
        refine sd_iaload hC dX10_theft_263 (?_ : Sd X 264 [(0, 20), (1, 0), (2, 0), (3, 0), (4, 0), (5, 0), (6, 0), (7, 0), (8, 0), (9, 0)] [0] _)
        refine sd_aload_n hC 20 dX10_theft_264 rfl (by decide) (by decide) (?_ : Sd X 265 [(0, 20), (1, 0), (2, 0), (3, 0), (4, 0), (5, 0), (6, 0), (7, 0), (8, 0), (9, 0)] [20, 0] _)
        refine sd_iload hC dX10_theft_265 (by decide) (?_ : Sd X 267 [(0, 20), (1, 0), (2, 0), (3, 0), (4, 0), (5, 0), (6, 0), (7, 0), (8, 0), (9, 0)] [0, 20, 0] _)
        refine sd_inv0 (τ := [0]) (τr := [0]) (ci := 10) (q := (RX10, TX10, 45)) hC WG (M_X10_hoursAt _) rfl rfl rfl rfl  rfl rfl wl_7_159 wl_7_161 wp_103 wl_1_10 wl_7_162 hd_X10_hoursAt (by rw [e3]; decide) (by decide) dX10_theft_267 (?_ : Sd X 270 [(0, 20), (1, 0), (2, 0), (3, 0), (4, 0), (5, 0), (6, 0), (7, 0), (8, 0), (9, 0)] [0, 0] _)
        refine sd_iadd hC dX10_theft_270 (?_ : Sd X 271 [(0, 20), (1, 0), (2, 0), (3, 0), (4, 0), (5, 0), (6, 0), (7, 0), (8, 0), (9, 0)] [0] _)
        refine sd_aload_n hC 20 dX10_theft_271 rfl (by decide) (by decide) (?_ : Sd X 272 [(0, 20), (1, 0), (2, 0), (3, 0), (4, 0), (5, 0), (6, 0), (7, 0), (8, 0), (9, 0)] [20, 0] _)
        refine sd_get hC (ci := 10) (j := 41) (C := RX10) (T := TX10) (N := 45) rfl rfl (by decide) in_X10 wl_5_205 dX10_theft_272 (?_ : Sd X 275 [(0, 20), (1, 0), (2, 0), (3, 0), (4, 0), (5, 0), (6, 0), (7, 0), (8, 0), (9, 0)] [100, 0] _)
        refine sd_iload hC dX10_theft_275 (by decide) (?_ : Sd X 277 [(0, 20), (1, 0), (2, 0), (3, 0), (4, 0), (5, 0), (6, 0), (7, 0), (8, 0), (9, 0)] [0, 100, 0] _)
        refine sd_iaload hC dX10_theft_277 (?_ : Sd X 278 [(0, 20), (1, 0), (2, 0), (3, 0), (4, 0), (5, 0), (6, 0), (7, 0), (8, 0), (9, 0)] [0, 0] _)
        refine sd_iadd hC dX10_theft_278 (?_ : Sd X 279 [(0, 20), (1, 0), (2, 0), (3, 0), (4, 0), (5, 0), (6, 0), (7, 0), (8, 0), (9, 0)] [0] _)
        refine sd_istore (Γ' := [(0, 20), (1, 0), (2, 0), (3, 0), (4, 0), (5, 0), (6, 0), (7, 0), (8, 0), (9, 0), (10, 0)]) hC dX10_theft_279 (by rw [e2]; decide) (by decide) (?_ : Sd X 281 [(0, 20), (1, 0), (2, 0), (3, 0), (4, 0), (5, 0), (6, 0), (7, 0), (8, 0), (9, 0), (10, 0)] [] _)
        refine sd_iload hC dX10_theft_281 (by decide) (?_ : Sd X 283 [(0, 20), (1, 0), (2, 0), (3, 0), (4, 0), (5, 0), (6, 0), (7, 0), (8, 0), (9, 0), (10, 0)] [0] _)
        refine sd_iload hC dX10_theft_283 (by decide) (?_ : Sd X 285 [(0, 20), (1, 0), (2, 0), (3, 0), (4, 0), (5, 0), (6, 0), (7, 0), (8, 0), (9, 0), (10, 0)] [0, 0] _)
        refine sd_iload hC dX10_theft_285 (by decide) (?_ : Sd X 287 [(0, 20), (1, 0), (2, 0), (3, 0), (4, 0), (5, 0), (6, 0), (7, 0), (8, 0), (9, 0), (10, 0)] [0, 0, 0] _)
        refine sd_icmp_le (tgt := 297) hC dX10_theft_287 rfl (?_ : Sd X 297 [(0, 20), (1, 0), (2, 0), (3, 0), (4, 0), (5, 0), (6, 0), (7, 0), (8, 0), (9, 0), (10, 0)] [0] _) (?_ : Sd X 290 [(0, 20), (1, 0), (2, 0), (3, 0), (4, 0), (5, 0), (6, 0), (7, 0), (8, 0), (9, 0), (10, 0)] [0] _)
        · exact Sd.weak (by decide) (S_297 k186 h186)
        · refine sd_iload hC dX10_theft_290 (by decide) (?_ : Sd X 292 [(0, 20), (1, 0), (2, 0), (3, 0), (4, 0), (5, 0), (6, 0), (7, 0), (8, 0), (9, 0), (10, 0)] [0, 0] _)
          refine sd_iload hC dX10_theft_292 (by decide) (?_ : Sd X 294 [(0, 20), (1, 0), (2, 0), (3, 0), (4, 0), (5, 0), (6, 0), (7, 0), (8, 0), (9, 0), (10, 0)] [0, 0, 0] _)
          refine sd_icmp_gt (tgt := 304) hC dX10_theft_294 rfl (?_ : Sd X 304 [(0, 20), (1, 0), (2, 0), (3, 0), (4, 0), (5, 0), (6, 0), (7, 0), (8, 0), (9, 0), (10, 0)] [0] _) (?_ : Sd X 297 [(0, 20), (1, 0), (2, 0), (3, 0), (4, 0), (5, 0), (6, 0), (7, 0), (8, 0), (9, 0), (10, 0)] [0] _)
          · refine sd_iconst hC dX10_theft_304 ⟨by decide, by decide⟩ (?_ : Sd X 305 [(0, 20), (1, 0), (2, 0), (3, 0), (4, 0), (5, 0), (6, 0), (7, 0), (8, 0), (9, 0), (10, 0)] [0, 0] _)
            exact Sd.weak (by decide) (S_305 k186 h186)
          · exact Sd.weak (by decide) (S_297 k186 h186)
      · refine sd_goto (tgt := 308) hC dX10_theft_204 rfl (?_ : Sd X 308 [(0, 20), (1, 0), (2, 0), (3, 0), (4, 0), (5, 0), (6, 0), (7, 0)] [] _)
        exact Sd.weak (by decide) (S_308 k186 h186)
  have S_157 : ∀ (k97 : tK), Sd X 97 [(0, 20), (1, 0), (2, 0), (3, 0), (4, 0), (5, 0), (6, 0)] [] k97 → Sd X 157 [(0, 20), (1, 0), (2, 0), (3, 0), (4, 0), (5, 0), (6, 0)] [0, 0, 100] (B_X10_theft_157 Q k97) := by
    intro k97 h97
    unfold B_X10_theft_157
    refine sd_iastore hC dX10_theft_157 (?_ : Sd X 158 [(0, 20), (1, 0), (2, 0), (3, 0), (4, 0), (5, 0), (6, 0)] [] _)
    refine sd_iinc (Γ' := [(0, 20), (1, 0), (2, 0), (3, 0), (4, 0), (5, 0), (6, 0)]) hC dX10_theft_158 (by decide) (by rw [e2]; decide) (by decide) (?_ : Sd X 161 [(0, 20), (1, 0), (2, 0), (3, 0), (4, 0), (5, 0), (6, 0)] [] _)
    refine sd_goto (tgt := 97) hC dX10_theft_161 rfl (?_ : Sd X 97 [(0, 20), (1, 0), (2, 0), (3, 0), (4, 0), (5, 0), (6, 0)] [] _)
    exact Sd.weak (by decide) h97
  have S_154 : ∀ (k97 : tK), Sd X 97 [(0, 20), (1, 0), (2, 0), (3, 0), (4, 0), (5, 0), (6, 0)] [] k97 → Sd X 154 [(0, 20), (1, 0), (2, 0), (3, 0), (4, 0), (5, 0), (6, 0)] [0, 100] (B_X10_theft_154 Q k97) := by
    intro k97 h97
    unfold B_X10_theft_154
    refine sd_ldc hC wl_8_158 dX10_theft_154 ⟨by decide, by decide⟩ (?_ : Sd X 157 [(0, 20), (1, 0), (2, 0), (3, 0), (4, 0), (5, 0), (6, 0)] [0, 0, 100] _)
    exact Sd.weak (by decide) (S_157 k97 h97)
  have S_128 : ∀ (k97 : tK), Sd X 97 [(0, 20), (1, 0), (2, 0), (3, 0), (4, 0), (5, 0), (6, 0)] [] k97 → Sd X 128 [(0, 20), (1, 0), (2, 0), (3, 0), (4, 0), (5, 0), (6, 0)] [0, 0, 100] (B_X10_theft_128 Q k97) := by
    intro k97 h97
    unfold B_X10_theft_128
    refine sd_iastore hC dX10_theft_128 (?_ : Sd X 129 [(0, 20), (1, 0), (2, 0), (3, 0), (4, 0), (5, 0), (6, 0)] [] _)
    refine sd_aload_n hC 20 dX10_theft_129 rfl (by decide) (by decide) (?_ : Sd X 130 [(0, 20), (1, 0), (2, 0), (3, 0), (4, 0), (5, 0), (6, 0)] [20] _)
    refine sd_get hC (ci := 10) (j := 41) (C := RX10) (T := TX10) (N := 45) rfl rfl (by decide) in_X10 wl_5_205 dX10_theft_130 (?_ : Sd X 133 [(0, 20), (1, 0), (2, 0), (3, 0), (4, 0), (5, 0), (6, 0)] [100] _)
    refine sd_iload hC dX10_theft_133 (by decide) (?_ : Sd X 135 [(0, 20), (1, 0), (2, 0), (3, 0), (4, 0), (5, 0), (6, 0)] [0, 100] _)
    refine sd_iload hC dX10_theft_135 (by decide) (?_ : Sd X 137 [(0, 20), (1, 0), (2, 0), (3, 0), (4, 0), (5, 0), (6, 0)] [0, 0, 100] _)
    refine sd_bipush hC dX10_theft_137 (by decide) (?_ : Sd X 139 [(0, 20), (1, 0), (2, 0), (3, 0), (4, 0), (5, 0), (6, 0)] [0, 0, 0, 100] _)
    refine sd_icmp_ge (tgt := 154) hC dX10_theft_139 rfl (?_ : Sd X 154 [(0, 20), (1, 0), (2, 0), (3, 0), (4, 0), (5, 0), (6, 0)] [0, 100] _) (?_ : Sd X 142 [(0, 20), (1, 0), (2, 0), (3, 0), (4, 0), (5, 0), (6, 0)] [0, 100] _)
    · exact Sd.weak (by decide) (S_154 k97 h97)
    · refine sd_aload_n hC 20 dX10_theft_142 rfl (by decide) (by decide) (?_ : Sd X 143 [(0, 20), (1, 0), (2, 0), (3, 0), (4, 0), (5, 0), (6, 0)] [20, 0, 100] _)
      refine sd_iconst hC dX10_theft_143 ⟨by decide, by decide⟩ (?_ : Sd X 144 [(0, 20), (1, 0), (2, 0), (3, 0), (4, 0), (5, 0), (6, 0)] [0, 20, 0, 100] _)
      refine sd_inv0 (τ := [0, 100]) (τr := [0]) (ci := 10) (q := (RX10, TX10, 45)) hC WG (M_X10_fitsRing _) rfl rfl rfl rfl  rfl rfl wl_7_118 wl_7_120 wp_93 wl_1_10 wl_7_121 hd_X10_fitsRing (by rw [e3]; decide) (by decide) dX10_theft_144 (?_ : Sd X 147 [(0, 20), (1, 0), (2, 0), (3, 0), (4, 0), (5, 0), (6, 0)] [0, 0, 100] _)
      refine sd_if_eq (tgt := 154) hC dX10_theft_147 rfl (?_ : Sd X 154 [(0, 20), (1, 0), (2, 0), (3, 0), (4, 0), (5, 0), (6, 0)] [0, 100] _) (?_ : Sd X 150 [(0, 20), (1, 0), (2, 0), (3, 0), (4, 0), (5, 0), (6, 0)] [0, 100] _)
      · exact Sd.weak (by decide) (S_154 k97 h97)
      · refine sd_iconst hC dX10_theft_150 ⟨by decide, by decide⟩ (?_ : Sd X 151 [(0, 20), (1, 0), (2, 0), (3, 0), (4, 0), (5, 0), (6, 0)] [0, 0, 100] _)
        refine sd_goto (tgt := 157) hC dX10_theft_151 rfl (?_ : Sd X 157 [(0, 20), (1, 0), (2, 0), (3, 0), (4, 0), (5, 0), (6, 0)] [0, 0, 100] _)
        exact Sd.weak (by decide) (S_157 k97 h97)
  have S_97 : Sd X 97 [(0, 20), (1, 0), (2, 0), (3, 0), (4, 0), (5, 0), (6, 0)] [] (L_X10_theft_97 Q) := by
    unfold L_X10_theft_97
    refine Sd.loop (fun k97 h97 => ?_)
    refine sd_iload hC dX10_theft_97 (by decide) (?_ : Sd X 99 [(0, 20), (1, 0), (2, 0), (3, 0), (4, 0), (5, 0), (6, 0)] [0] _)
    refine sd_bipush hC dX10_theft_99 (by decide) (?_ : Sd X 101 [(0, 20), (1, 0), (2, 0), (3, 0), (4, 0), (5, 0), (6, 0)] [0, 0] _)
    refine sd_icmp_ge (tgt := 164) hC dX10_theft_101 rfl (?_ : Sd X 164 [(0, 20), (1, 0), (2, 0), (3, 0), (4, 0), (5, 0), (6, 0)] [] _) (?_ : Sd X 104 [(0, 20), (1, 0), (2, 0), (3, 0), (4, 0), (5, 0), (6, 0)] [] _)
    · refine sd_aload_n hC 20 dX10_theft_164 rfl (by decide) (by decide) (?_ : Sd X 165 [(0, 20), (1, 0), (2, 0), (3, 0), (4, 0), (5, 0), (6, 0)] [20] _)
      refine sd_aload_n hC 20 dX10_theft_165 rfl (by decide) (by decide) (?_ : Sd X 166 [(0, 20), (1, 0), (2, 0), (3, 0), (4, 0), (5, 0), (6, 0)] [20, 20] _)
      refine sd_get hC (ci := 10) (j := 40) (C := RX10) (T := TX10) (N := 45) rfl rfl (by decide) in_X10 wl_5_204 dX10_theft_166 (?_ : Sd X 169 [(0, 20), (1, 0), (2, 0), (3, 0), (4, 0), (5, 0), (6, 0)] [100, 20] _)
      refine sd_inv0v (τ := []) (τr := [100]) (ci := 10) (q := (RX10, TX10, 45)) hC WG (M_X10_spreads _) rfl rfl rfl rfl  rfl rfl wl_8_159 wl_8_161 wp_129 wl_1_10 wl_8_162 hd_X10_spreads (by rw [e3]; decide) (by decide) dX10_theft_169 (?_ : Sd X 172 [(0, 20), (1, 0), (2, 0), (3, 0), (4, 0), (5, 0), (6, 0)] [] _)
      refine sd_aload_n hC 20 dX10_theft_172 rfl (by decide) (by decide) (?_ : Sd X 173 [(0, 20), (1, 0), (2, 0), (3, 0), (4, 0), (5, 0), (6, 0)] [20] _)
      refine sd_aload_n hC 20 dX10_theft_173 rfl (by decide) (by decide) (?_ : Sd X 174 [(0, 20), (1, 0), (2, 0), (3, 0), (4, 0), (5, 0), (6, 0)] [20, 20] _)
      refine sd_get hC (ci := 10) (j := 41) (C := RX10) (T := TX10) (N := 45) rfl rfl (by decide) in_X10 wl_5_205 dX10_theft_174 (?_ : Sd X 177 [(0, 20), (1, 0), (2, 0), (3, 0), (4, 0), (5, 0), (6, 0)] [100, 20] _)
      refine sd_inv0v (τ := []) (τr := [100]) (ci := 10) (q := (RX10, TX10, 45)) hC WG (M_X10_spreads _) rfl rfl rfl rfl  rfl rfl wl_8_159 wl_8_161 wp_129 wl_1_10 wl_8_162 hd_X10_spreads (by rw [e3]; decide) (by decide) dX10_theft_177 (?_ : Sd X 180 [(0, 20), (1, 0), (2, 0), (3, 0), (4, 0), (5, 0), (6, 0)] [] _)
      refine sd_iconst hC dX10_theft_180 ⟨by decide, by decide⟩ (?_ : Sd X 181 [(0, 20), (1, 0), (2, 0), (3, 0), (4, 0), (5, 0), (6, 0)] [0] _)
      refine sd_istore (Γ' := [(0, 20), (1, 0), (2, 0), (3, 0), (4, 0), (5, 0), (6, 0)]) hC dX10_theft_181 (by rw [e2]; decide) (by decide) (?_ : Sd X 183 [(0, 20), (1, 0), (2, 0), (3, 0), (4, 0), (5, 0), (6, 0)] [] _)
      refine sd_iconst hC dX10_theft_183 ⟨by decide, by decide⟩ (?_ : Sd X 184 [(0, 20), (1, 0), (2, 0), (3, 0), (4, 0), (5, 0), (6, 0)] [0] _)
      refine sd_istore (Γ' := [(0, 20), (1, 0), (2, 0), (3, 0), (4, 0), (5, 0), (6, 0), (7, 0)]) hC dX10_theft_184 (by rw [e2]; decide) (by decide) (?_ : Sd X 186 [(0, 20), (1, 0), (2, 0), (3, 0), (4, 0), (5, 0), (6, 0), (7, 0)] [] _)
      exact Sd.weak (by decide) (S_186)
    · refine sd_aload_n hC 20 dX10_theft_104 rfl (by decide) (by decide) (?_ : Sd X 105 [(0, 20), (1, 0), (2, 0), (3, 0), (4, 0), (5, 0), (6, 0)] [20] _)
      refine sd_get hC (ci := 10) (j := 40) (C := RX10) (T := TX10) (N := 45) rfl rfl (by decide) in_X10 wl_5_204 dX10_theft_105 (?_ : Sd X 108 [(0, 20), (1, 0), (2, 0), (3, 0), (4, 0), (5, 0), (6, 0)] [100] _)
      refine sd_iload hC dX10_theft_108 (by decide) (?_ : Sd X 110 [(0, 20), (1, 0), (2, 0), (3, 0), (4, 0), (5, 0), (6, 0)] [0, 100] _)
      refine sd_iload hC dX10_theft_110 (by decide) (?_ : Sd X 112 [(0, 20), (1, 0), (2, 0), (3, 0), (4, 0), (5, 0), (6, 0)] [0, 0, 100] _)
      refine sd_bipush hC dX10_theft_112 (by decide) (?_ : Sd X 114 [(0, 20), (1, 0), (2, 0), (3, 0), (4, 0), (5, 0), (6, 0)] [0, 0, 0, 100] _)
      refine sd_iload_n hC dX10_theft_114 rfl (by decide) (?_ : Sd X 115 [(0, 20), (1, 0), (2, 0), (3, 0), (4, 0), (5, 0), (6, 0)] [0, 0, 0, 0, 100] _)
      refine sd_imul hC dX10_theft_115 (?_ : Sd X 116 [(0, 20), (1, 0), (2, 0), (3, 0), (4, 0), (5, 0), (6, 0)] [0, 0, 0, 100] _)
      refine sd_iload_n hC dX10_theft_116 rfl (by decide) (?_ : Sd X 117 [(0, 20), (1, 0), (2, 0), (3, 0), (4, 0), (5, 0), (6, 0)] [0, 0, 0, 0, 100] _)
      refine sd_iadd hC dX10_theft_117 (?_ : Sd X 118 [(0, 20), (1, 0), (2, 0), (3, 0), (4, 0), (5, 0), (6, 0)] [0, 0, 0, 100] _)
      refine sd_icmp_ne (tgt := 125) hC dX10_theft_118 rfl (?_ : Sd X 125 [(0, 20), (1, 0), (2, 0), (3, 0), (4, 0), (5, 0), (6, 0)] [0, 100] _) (?_ : Sd X 121 [(0, 20), (1, 0), (2, 0), (3, 0), (4, 0), (5, 0), (6, 0)] [0, 100] _)
      · refine sd_ldc hC wl_8_158 dX10_theft_125 ⟨by decide, by decide⟩ (?_ : Sd X 128 [(0, 20), (1, 0), (2, 0), (3, 0), (4, 0), (5, 0), (6, 0)] [0, 0, 100] _)
        exact Sd.weak (by decide) (S_128 k97 h97)
      · refine sd_iconst hC dX10_theft_121 ⟨by decide, by decide⟩ (?_ : Sd X 122 [(0, 20), (1, 0), (2, 0), (3, 0), (4, 0), (5, 0), (6, 0)] [0, 0, 100] _)
        refine sd_goto (tgt := 128) hC dX10_theft_122 rfl (?_ : Sd X 128 [(0, 20), (1, 0), (2, 0), (3, 0), (4, 0), (5, 0), (6, 0)] [0, 0, 100] _)
        exact Sd.weak (by decide) (S_128 k97 h97)
  have S_73 : Sd X 73 [(0, 20), (1, 0), (2, 0), (3, 0), (4, 0), (5, 0)] [] (B_X10_theft_73 Q) := by
    unfold B_X10_theft_73
    refine sd_aload_n hC 20 dX10_theft_73 rfl (by decide) (by decide) (?_ : Sd X 74 [(0, 20), (1, 0), (2, 0), (3, 0), (4, 0), (5, 0)] [20] _)
    refine sd_iload_n hC dX10_theft_74 rfl (by decide) (?_ : Sd X 75 [(0, 20), (1, 0), (2, 0), (3, 0), (4, 0), (5, 0)] [0, 20] _)
    refine sd_iload hC dX10_theft_75 (by decide) (?_ : Sd X 77 [(0, 20), (1, 0), (2, 0), (3, 0), (4, 0), (5, 0)] [0, 0, 20] _)
    refine sd_inv0v (τ := []) (τr := [0, 0]) (ci := 10) (q := (RX10, TX10, 45)) hC WG (M_X10_takes _) rfl rfl rfl rfl  rfl rfl wl_7_103 wl_7_105 wp_90 wl_1_10 wl_7_106 hd_X10_takes (by rw [e3]; decide) (by decide) dX10_theft_77 (?_ : Sd X 80 [(0, 20), (1, 0), (2, 0), (3, 0), (4, 0), (5, 0)] [] _)
    refine sd_aload_n hC 20 dX10_theft_80 rfl (by decide) (by decide) (?_ : Sd X 81 [(0, 20), (1, 0), (2, 0), (3, 0), (4, 0), (5, 0)] [20] _)
    refine sd_iload_n hC dX10_theft_81 rfl (by decide) (?_ : Sd X 82 [(0, 20), (1, 0), (2, 0), (3, 0), (4, 0), (5, 0)] [0, 20] _)
    refine sd_inv0 (τ := []) (τr := [0]) (ci := 10) (q := (RX10, TX10, 45)) hC WG (M_X10_fitsRing _) rfl rfl rfl rfl  rfl rfl wl_7_118 wl_7_120 wp_93 wl_1_10 wl_7_121 hd_X10_fitsRing (by rw [e3]; decide) (by decide) dX10_theft_82 (?_ : Sd X 85 [(0, 20), (1, 0), (2, 0), (3, 0), (4, 0), (5, 0)] [0] _)
    refine sd_if_ne (tgt := 94) hC dX10_theft_85 rfl (?_ : Sd X 94 [(0, 20), (1, 0), (2, 0), (3, 0), (4, 0), (5, 0)] [] _) (?_ : Sd X 88 [(0, 20), (1, 0), (2, 0), (3, 0), (4, 0), (5, 0)] [] _)
    · refine sd_iconst hC dX10_theft_94 ⟨by decide, by decide⟩ (?_ : Sd X 95 [(0, 20), (1, 0), (2, 0), (3, 0), (4, 0), (5, 0)] [0] _)
      refine sd_istore (Γ' := [(0, 20), (1, 0), (2, 0), (3, 0), (4, 0), (5, 0), (6, 0)]) hC dX10_theft_95 (by rw [e2]; decide) (by decide) (?_ : Sd X 97 [(0, 20), (1, 0), (2, 0), (3, 0), (4, 0), (5, 0), (6, 0)] [] _)
      exact Sd.weak (by decide) (S_97)
    · refine sd_aload_n hC 20 dX10_theft_88 rfl (by decide) (by decide) (?_ : Sd X 89 [(0, 20), (1, 0), (2, 0), (3, 0), (4, 0), (5, 0)] [20] _)
      refine sd_iconst hC dX10_theft_89 ⟨by decide, by decide⟩ (?_ : Sd X 90 [(0, 20), (1, 0), (2, 0), (3, 0), (4, 0), (5, 0)] [0, 20] _)
      refine sd_inv0 (τ := []) (τr := [0]) (ci := 10) (q := (RX10, TX10, 45)) hC WG (M_X10_good _) rfl rfl rfl rfl  rfl rfl wl_7_171 wl_7_173 wp_105 wl_1_10 wl_7_174 hd_X10_good (by rw [e3]; decide) (by decide) dX10_theft_90 (?_ : Sd X 93 [(0, 20), (1, 0), (2, 0), (3, 0), (4, 0), (5, 0)] [0] _)
      exact sd_ireturn hC hT dX10_theft_93
  refine (?_ : Sd X 0 [(0, 20), (1, 0), (2, 0), (3, 0), (4, 0), (5, 0)] [] (E_X10_theft Q))
  unfold E_X10_theft
  refine sd_aload_n hC 20 dX10_theft_0 rfl (by decide) (by decide) (?_ : Sd X 1 [(0, 20), (1, 0), (2, 0), (3, 0), (4, 0), (5, 0)] [20] _)
  refine sd_iconst hC dX10_theft_1 ⟨by decide, by decide⟩ (?_ : Sd X 2 [(0, 20), (1, 0), (2, 0), (3, 0), (4, 0), (5, 0)] [0, 20] _)
  refine sd_put hC (ci := 10) (j := 0) (C := RX10) (T := TX10) (N := 45) tyX10 tyX10_ok nmX10 rfl rfl (by decide) in_X10 rfl rfl wl_5_164 dX10_theft_2 (?_ : Sd X 5 [(0, 20), (1, 0), (2, 0), (3, 0), (4, 0), (5, 0)] [] _)
  refine sd_aload_n hC 20 dX10_theft_5 rfl (by decide) (by decide) (?_ : Sd X 6 [(0, 20), (1, 0), (2, 0), (3, 0), (4, 0), (5, 0)] [20] _)
  refine sd_iload_n hC dX10_theft_6 rfl (by decide) (?_ : Sd X 7 [(0, 20), (1, 0), (2, 0), (3, 0), (4, 0), (5, 0)] [0, 20] _)
  refine sd_inv0 (τ := []) (τr := [0]) (ci := 10) (q := (RX10, TX10, 45)) hC WG (M_X10_isGood _) rfl rfl rfl rfl  rfl rfl wl_7_195 wl_7_197 wp_107 wl_1_10 wl_7_198 hd_X10_isGood (by rw [e3]; decide) (by decide) dX10_theft_7 (?_ : Sd X 10 [(0, 20), (1, 0), (2, 0), (3, 0), (4, 0), (5, 0)] [0] _)
  refine sd_if_eq (tgt := 31) hC dX10_theft_10 rfl (?_ : Sd X 31 [(0, 20), (1, 0), (2, 0), (3, 0), (4, 0), (5, 0)] [] _) (?_ : Sd X 13 [(0, 20), (1, 0), (2, 0), (3, 0), (4, 0), (5, 0)] [] _)
  · exact Sd.weak (by decide) (S_31)
  · refine sd_aload_n hC 20 dX10_theft_13 rfl (by decide) (by decide) (?_ : Sd X 14 [(0, 20), (1, 0), (2, 0), (3, 0), (4, 0), (5, 0)] [20] _)
    refine sd_iload_n hC dX10_theft_14 rfl (by decide) (?_ : Sd X 15 [(0, 20), (1, 0), (2, 0), (3, 0), (4, 0), (5, 0)] [0, 20] _)
    refine sd_inv0 (τ := []) (τr := [0]) (ci := 10) (q := (RX10, TX10, 45)) hC WG (M_X10_isRing _) rfl rfl rfl rfl  rfl rfl wl_7_199 wl_7_201 wp_108 wl_1_10 wl_7_202 hd_X10_isRing (by rw [e3]; decide) (by decide) dX10_theft_15 (?_ : Sd X 18 [(0, 20), (1, 0), (2, 0), (3, 0), (4, 0), (5, 0)] [0] _)
    refine sd_if_eq (tgt := 31) hC dX10_theft_18 rfl (?_ : Sd X 31 [(0, 20), (1, 0), (2, 0), (3, 0), (4, 0), (5, 0)] [] _) (?_ : Sd X 21 [(0, 20), (1, 0), (2, 0), (3, 0), (4, 0), (5, 0)] [] _)
    · exact Sd.weak (by decide) (S_31)
    · refine sd_iload_n hC dX10_theft_21 rfl (by decide) (?_ : Sd X 22 [(0, 20), (1, 0), (2, 0), (3, 0), (4, 0), (5, 0)] [0] _)
      refine sd_iconst hC dX10_theft_22 ⟨by decide, by decide⟩ (?_ : Sd X 23 [(0, 20), (1, 0), (2, 0), (3, 0), (4, 0), (5, 0)] [0, 0] _)
      refine sd_bipush hC dX10_theft_23 (by decide) (?_ : Sd X 25 [(0, 20), (1, 0), (2, 0), (3, 0), (4, 0), (5, 0)] [0, 0, 0] _)
      refine sd_invs (τ := []) (τs := [0, 0, 0]) hC false "" WG (M_X10_in _) rfl rfl rfl rfl wl_6_238 wl_6_239 wl_1_10 wl_7_0 hd_X10_in (by rw [e3]; decide) (by decide) dX10_theft_25 (?_ : Sd X 28 [(0, 20), (1, 0), (2, 0), (3, 0), (4, 0), (5, 0)] [0] _)
      refine sd_if_ne (tgt := 37) hC dX10_theft_28 rfl (?_ : Sd X 37 [(0, 20), (1, 0), (2, 0), (3, 0), (4, 0), (5, 0)] [] _) (?_ : Sd X 31 [(0, 20), (1, 0), (2, 0), (3, 0), (4, 0), (5, 0)] [] _)
      · refine sd_iload hC dX10_theft_37 (by decide) (?_ : Sd X 39 [(0, 20), (1, 0), (2, 0), (3, 0), (4, 0), (5, 0)] [0] _)
        refine sd_iconst hC dX10_theft_39 ⟨by decide, by decide⟩ (?_ : Sd X 40 [(0, 20), (1, 0), (2, 0), (3, 0), (4, 0), (5, 0)] [0, 0] _)
        refine sd_bipush hC dX10_theft_40 (by decide) (?_ : Sd X 42 [(0, 20), (1, 0), (2, 0), (3, 0), (4, 0), (5, 0)] [0, 0, 0] _)
        refine sd_invs (τ := []) (τs := [0, 0, 0]) hC false "" WG (M_X10_in _) rfl rfl rfl rfl wl_6_238 wl_6_239 wl_1_10 wl_7_0 hd_X10_in (by rw [e3]; decide) (by decide) dX10_theft_42 (?_ : Sd X 45 [(0, 20), (1, 0), (2, 0), (3, 0), (4, 0), (5, 0)] [0] _)
        refine sd_if_ne (tgt := 54) hC dX10_theft_45 rfl (?_ : Sd X 54 [(0, 20), (1, 0), (2, 0), (3, 0), (4, 0), (5, 0)] [] _) (?_ : Sd X 48 [(0, 20), (1, 0), (2, 0), (3, 0), (4, 0), (5, 0)] [] _)
        · refine sd_iload hC dX10_theft_54 (by decide) (?_ : Sd X 56 [(0, 20), (1, 0), (2, 0), (3, 0), (4, 0), (5, 0)] [0] _)
          refine sd_if_eq (tgt := 73) hC dX10_theft_56 rfl (?_ : Sd X 73 [(0, 20), (1, 0), (2, 0), (3, 0), (4, 0), (5, 0)] [] _) (?_ : Sd X 59 [(0, 20), (1, 0), (2, 0), (3, 0), (4, 0), (5, 0)] [] _)
          · exact Sd.weak (by decide) (S_73)
          · refine sd_aload_n hC 20 dX10_theft_59 rfl (by decide) (by decide) (?_ : Sd X 60 [(0, 20), (1, 0), (2, 0), (3, 0), (4, 0), (5, 0)] [20] _)
            refine sd_iload_n hC dX10_theft_60 rfl (by decide) (?_ : Sd X 61 [(0, 20), (1, 0), (2, 0), (3, 0), (4, 0), (5, 0)] [0, 20] _)
            refine sd_inv0 (τ := []) (τr := [0]) (ci := 10) (q := (RX10, TX10, 45)) hC WG (M_X10_canCut _) rfl rfl rfl rfl  rfl rfl wl_7_99 wl_7_101 wp_89 wl_1_10 wl_7_102 hd_X10_canCut (by rw [e3]; decide) (by decide) dX10_theft_61 (?_ : Sd X 64 [(0, 20), (1, 0), (2, 0), (3, 0), (4, 0), (5, 0)] [0] _)
            refine sd_if_ne (tgt := 73) hC dX10_theft_64 rfl (?_ : Sd X 73 [(0, 20), (1, 0), (2, 0), (3, 0), (4, 0), (5, 0)] [] _) (?_ : Sd X 67 [(0, 20), (1, 0), (2, 0), (3, 0), (4, 0), (5, 0)] [] _)
            · exact Sd.weak (by decide) (S_73)
            · refine sd_aload_n hC 20 dX10_theft_67 rfl (by decide) (by decide) (?_ : Sd X 68 [(0, 20), (1, 0), (2, 0), (3, 0), (4, 0), (5, 0)] [20] _)
              refine sd_iconst hC dX10_theft_68 ⟨by decide, by decide⟩ (?_ : Sd X 69 [(0, 20), (1, 0), (2, 0), (3, 0), (4, 0), (5, 0)] [0, 20] _)
              refine sd_inv0 (τ := []) (τr := [0]) (ci := 10) (q := (RX10, TX10, 45)) hC WG (M_X10_refused _) rfl rfl rfl rfl  rfl rfl wl_6_72 wl_6_74 wp_63 wl_1_10 wl_6_75 hd_X10_refused (by rw [e3]; decide) (by decide) dX10_theft_69 (?_ : Sd X 72 [(0, 20), (1, 0), (2, 0), (3, 0), (4, 0), (5, 0)] [0] _)
              exact sd_ireturn hC hT dX10_theft_72
        · refine sd_aload_n hC 20 dX10_theft_48 rfl (by decide) (by decide) (?_ : Sd X 49 [(0, 20), (1, 0), (2, 0), (3, 0), (4, 0), (5, 0)] [20] _)
          refine sd_iconst hC dX10_theft_49 ⟨by decide, by decide⟩ (?_ : Sd X 50 [(0, 20), (1, 0), (2, 0), (3, 0), (4, 0), (5, 0)] [0, 20] _)
          refine sd_inv0 (τ := []) (τr := [0]) (ci := 10) (q := (RX10, TX10, 45)) hC WG (M_X10_refused _) rfl rfl rfl rfl  rfl rfl wl_6_72 wl_6_74 wp_63 wl_1_10 wl_6_75 hd_X10_refused (by rw [e3]; decide) (by decide) dX10_theft_50 (?_ : Sd X 53 [(0, 20), (1, 0), (2, 0), (3, 0), (4, 0), (5, 0)] [0] _)
          exact sd_ireturn hC hT dX10_theft_53
      · exact Sd.weak (by decide) (S_31)
theorem hd_X10_thrown : yX10_thrown.cls ≠ "java/lang/invoke/MethodHandle" ∧ yX10_thrown.cls ≠ "java/lang/invoke/VarHandle" ∧ (parseMethodDescriptor yX10_thrown.desc).map (fun d => d.parameters.length) = some 0 := by decide +kernel
set_option maxRecDepth 100000 in
set_option maxHeartbeats 4000000 in
theorem M_X10_thrown (l : Launch) : Mt l yX10_thrown (Cond.code yX10_thrown cX10_thrown 1 (some .int) :: WALL) { frames := 0, cells := 0, slots := 0, locals := 0 } [20] (some 0) T_X10_thrown := by
  refine Mt.mk (B := E_X10_thrown) (by decide +kernel) (by decide) (fun _ _ _ hh => hh) ?_
  intro X Q e1 e2 e3 hC hN hT
  subst e1
  have hC : CF X cX10_thrown RX10 WALL := hC
  refine (?_ : Sd X 0 [(0, 20)] [] (E_X10_thrown Q))
  unfold E_X10_thrown
  refine sd_aload_n hC 20 dX10_thrown_0 rfl (by decide) (by decide) (?_ : Sd X 1 [(0, 20)] [20] _)
  refine sd_get hC (ci := 10) (j := 0) (C := RX10) (T := TX10) (N := 45) rfl rfl (by decide) in_X10 wl_5_164 dX10_thrown_1 (?_ : Sd X 4 [(0, 20)] [0] _)
  exact sd_ireturn hC hT dX10_thrown_4
theorem hd_X10_tolls : yX10_tolls.cls ≠ "java/lang/invoke/MethodHandle" ∧ yX10_tolls.cls ≠ "java/lang/invoke/VarHandle" ∧ (parseMethodDescriptor yX10_tolls.desc).map (fun d => d.parameters.length) = some 1 := by decide +kernel
set_option maxRecDepth 100000 in
set_option maxHeartbeats 4000000 in
theorem M_X10_tolls (l : Launch) : Mt l yX10_tolls (Cond.code yX10_tolls cX10_tolls 2 (some .int) :: WALL) { frames := 1, cells := 0, slots := 0, locals := 21 } [20, 0] (some 0) T_X10_tolls := by
  refine Mt.mk (B := E_X10_tolls) (by decide +kernel) (by decide) (fun _ _ _ hh => hh) ?_
  intro X Q e1 e2 e3 hC hN hT
  subst e1
  have hC : CF X cX10_tolls RX10 WALL := hC
  have S_35 : Sd X 35 [(0, 20), (1, 0)] [0] (B_X10_tolls_35 Q) := by
    unfold B_X10_tolls_35
    exact sd_ireturn hC hT dX10_tolls_35
  refine (?_ : Sd X 0 [(0, 20), (1, 0)] [] (E_X10_tolls Q))
  unfold E_X10_tolls
  refine sd_aload_n hC 20 dX10_tolls_0 rfl (by decide) (by decide) (?_ : Sd X 1 [(0, 20), (1, 0)] [20] _)
  refine sd_iconst hC dX10_tolls_1 ⟨by decide, by decide⟩ (?_ : Sd X 2 [(0, 20), (1, 0)] [0, 20] _)
  refine sd_put hC (ci := 10) (j := 0) (C := RX10) (T := TX10) (N := 45) tyX10 tyX10_ok nmX10 rfl rfl (by decide) in_X10 rfl rfl wl_5_164 dX10_tolls_2 (?_ : Sd X 5 [(0, 20), (1, 0)] [] _)
  refine sd_aload_n hC 20 dX10_tolls_5 rfl (by decide) (by decide) (?_ : Sd X 6 [(0, 20), (1, 0)] [20] _)
  refine sd_iload_n hC dX10_tolls_6 rfl (by decide) (?_ : Sd X 7 [(0, 20), (1, 0)] [0, 20] _)
  refine sd_inv0 (τ := []) (τr := [0]) (ci := 10) (q := (RX10, TX10, 45)) hC WG (M_X10_isGate _) rfl rfl rfl rfl  rfl rfl wl_7_187 wl_7_189 wp_106 wl_1_10 wl_7_190 hd_X10_isGate (by rw [e3]; decide) (by decide) dX10_tolls_7 (?_ : Sd X 10 [(0, 20), (1, 0)] [0] _)
  refine sd_if_eq (tgt := 30) hC dX10_tolls_10 rfl (?_ : Sd X 30 [(0, 20), (1, 0)] [] _) (?_ : Sd X 13 [(0, 20), (1, 0)] [] _)
  · refine sd_aload_n hC 20 dX10_tolls_30 rfl (by decide) (by decide) (?_ : Sd X 31 [(0, 20), (1, 0)] [20] _)
    refine sd_iconst hC dX10_tolls_31 ⟨by decide, by decide⟩ (?_ : Sd X 32 [(0, 20), (1, 0)] [0, 20] _)
    refine sd_inv0 (τ := []) (τr := [0]) (ci := 10) (q := (RX10, TX10, 45)) hC WG (M_X10_refused _) rfl rfl rfl rfl  rfl rfl wl_6_72 wl_6_74 wp_63 wl_1_10 wl_6_75 hd_X10_refused (by rw [e3]; decide) (by decide) dX10_tolls_32 (?_ : Sd X 35 [(0, 20), (1, 0)] [0] _)
    exact Sd.weak (by decide) (S_35)
  · refine sd_aload_n hC 20 dX10_tolls_13 rfl (by decide) (by decide) (?_ : Sd X 14 [(0, 20), (1, 0)] [20] _)
    refine sd_aload_n hC 20 dX10_tolls_14 rfl (by decide) (by decide) (?_ : Sd X 15 [(0, 20), (1, 0)] [20, 20] _)
    refine sd_get hC (ci := 10) (j := 32) (C := RX10) (T := TX10) (N := 45) rfl rfl (by decide) in_X10 wl_5_196 dX10_tolls_15 (?_ : Sd X 18 [(0, 20), (1, 0)] [100, 20] _)
    refine sd_sipush hC dX10_tolls_18 (by decide) (?_ : Sd X 21 [(0, 20), (1, 0)] [0, 100, 20] _)
    refine sd_iload_n hC dX10_tolls_21 rfl (by decide) (?_ : Sd X 22 [(0, 20), (1, 0)] [0, 0, 100, 20] _)
    refine sd_iadd hC dX10_tolls_22 (?_ : Sd X 23 [(0, 20), (1, 0)] [0, 100, 20] _)
    refine sd_iaload hC dX10_tolls_23 (?_ : Sd X 24 [(0, 20), (1, 0)] [0, 20] _)
    refine sd_inv0 (τ := []) (τr := [0]) (ci := 10) (q := (RX10, TX10, 45)) hC WG (M_X10_good _) rfl rfl rfl rfl  rfl rfl wl_7_171 wl_7_173 wp_105 wl_1_10 wl_7_174 hd_X10_good (by rw [e3]; decide) (by decide) dX10_tolls_24 (?_ : Sd X 27 [(0, 20), (1, 0)] [0] _)
    refine sd_goto (tgt := 35) hC dX10_tolls_27 rfl (?_ : Sd X 35 [(0, 20), (1, 0)] [0] _)
    exact Sd.weak (by decide) (S_35)
theorem hd_X10_trouble : yX10_trouble.cls ≠ "java/lang/invoke/MethodHandle" ∧ yX10_trouble.cls ≠ "java/lang/invoke/VarHandle" ∧ (parseMethodDescriptor yX10_trouble.desc).map (fun d => d.parameters.length) = some 0 := by decide +kernel
set_option maxRecDepth 100000 in
set_option maxHeartbeats 4000000 in
theorem M_X10_trouble (l : Launch) : Mt l yX10_trouble (Cond.code yX10_trouble cX10_trouble 1 (some .int) :: WALL) { frames := 0, cells := 0, slots := 0, locals := 0 } [20] (some 0) T_X10_trouble := by
  refine Mt.mk (B := E_X10_trouble) (by decide +kernel) (by decide) (fun _ _ _ hh => hh) ?_
  intro X Q e1 e2 e3 hC hN hT
  subst e1
  have hC : CF X cX10_trouble RX10 WALL := hC
  refine (?_ : Sd X 0 [(0, 20)] [] (E_X10_trouble Q))
  unfold E_X10_trouble
  refine sd_aload_n hC 20 dX10_trouble_0 rfl (by decide) (by decide) (?_ : Sd X 1 [(0, 20)] [20] _)
  refine sd_iconst hC dX10_trouble_1 ⟨by decide, by decide⟩ (?_ : Sd X 2 [(0, 20)] [0, 20] _)
  refine sd_put hC (ci := 10) (j := 0) (C := RX10) (T := TX10) (N := 45) tyX10 tyX10_ok nmX10 rfl rfl (by decide) in_X10 rfl rfl wl_5_164 dX10_trouble_2 (?_ : Sd X 5 [(0, 20)] [] _)
  refine sd_aload_n hC 20 dX10_trouble_5 rfl (by decide) (by decide) (?_ : Sd X 6 [(0, 20)] [20] _)
  refine sd_get hC (ci := 10) (j := 1) (C := RX10) (T := TX10) (N := 45) rfl rfl (by decide) in_X10 wl_5_165 dX10_trouble_6 (?_ : Sd X 9 [(0, 20)] [0] _)
  exact sd_ireturn hC hT dX10_trouble_9
theorem hd_X10_undo : yX10_undo.cls ≠ "java/lang/invoke/MethodHandle" ∧ yX10_undo.cls ≠ "java/lang/invoke/VarHandle" ∧ (parseMethodDescriptor yX10_undo.desc).map (fun d => d.parameters.length) = some 0 := by decide +kernel
set_option maxRecDepth 100000 in
set_option maxHeartbeats 4000000 in
theorem M_X10_undo (l : Launch) : Mt l yX10_undo (Cond.code yX10_undo cX10_undo 3 (some .boolean) :: WALL) { frames := 8, cells := 0, slots := 0, locals := 195 } [20] (some 0) T_X10_undo := by
  refine Mt.mk (B := E_X10_undo) (by decide +kernel) (by decide) (fun _ _ _ hh => hh) ?_
  intro X Q e1 e2 e3 hC hN hT
  subst e1
  have hC : CF X cX10_undo RX10 WALL := hC
  have S_34 : Sd X 34 [(0, 20), (1, 0), (2, 0)] [] (L_X10_undo_34 Q) := by
    unfold L_X10_undo_34
    refine Sd.loop (fun k34 h34 => ?_)
    refine sd_iload_n hC dX10_undo_34 rfl (by decide) (?_ : Sd X 35 [(0, 20), (1, 0), (2, 0)] [0] _)
    refine sd_iload_n hC dX10_undo_35 rfl (by decide) (?_ : Sd X 36 [(0, 20), (1, 0), (2, 0)] [0, 0] _)
    refine sd_icmp_ge (tgt := 64) hC dX10_undo_36 rfl (?_ : Sd X 64 [(0, 20), (1, 0), (2, 0)] [] _) (?_ : Sd X 39 [(0, 20), (1, 0), (2, 0)] [] _)
    · refine sd_aload_n hC 20 dX10_undo_64 rfl (by decide) (by decide) (?_ : Sd X 65 [(0, 20), (1, 0), (2, 0)] [20] _)
      refine sd_aload_n hC 20 dX10_undo_65 rfl (by decide) (by decide) (?_ : Sd X 66 [(0, 20), (1, 0), (2, 0)] [20, 20] _)
      refine sd_get hC (ci := 10) (j := 43) (C := RX10) (T := TX10) (N := 45) rfl rfl (by decide) in_X10 wl_5_207 dX10_undo_66 (?_ : Sd X 69 [(0, 20), (1, 0), (2, 0)] [100, 20] _)
      refine sd_aload_n hC 20 dX10_undo_69 rfl (by decide) (by decide) (?_ : Sd X 70 [(0, 20), (1, 0), (2, 0)] [20, 100, 20] _)
      refine sd_get hC (ci := 10) (j := 44) (C := RX10) (T := TX10) (N := 45) rfl rfl (by decide) in_X10 wl_5_208 dX10_undo_70 (?_ : Sd X 73 [(0, 20), (1, 0), (2, 0)] [0, 100, 20] _)
      refine sd_iaload hC dX10_undo_73 (?_ : Sd X 74 [(0, 20), (1, 0), (2, 0)] [0, 20] _)
      refine sd_put hC (ci := 10) (j := 17) (C := RX10) (T := TX10) (N := 45) tyX10 tyX10_ok nmX10 rfl rfl (by decide) in_X10 rfl rfl wl_5_181 dX10_undo_74 (?_ : Sd X 77 [(0, 20), (1, 0), (2, 0)] [] _)
      refine sd_aload_n hC 20 dX10_undo_77 rfl (by decide) (by decide) (?_ : Sd X 78 [(0, 20), (1, 0), (2, 0)] [20] _)
      refine sd_inv0v (τ := []) (τr := []) (ci := 10) (q := (RX10, TX10, 45)) hC WG (M_X10_dawns _) rfl rfl rfl rfl  rfl rfl wl_7_87 wl_7_89 wp_86 wl_1_10 wl_7_90 hd_X10_dawns (by rw [e3]; decide) (by decide) dX10_undo_78 (?_ : Sd X 81 [(0, 20), (1, 0), (2, 0)] [] _)
      refine sd_aload_n hC 20 dX10_undo_81 rfl (by decide) (by decide) (?_ : Sd X 82 [(0, 20), (1, 0), (2, 0)] [20] _)
      refine sd_inv0 (τ := []) (τr := []) (ci := 10) (q := (RX10, TX10, 45)) hC WG (M_X10_granted _) rfl rfl rfl rfl  rfl rfl wl_8_75 wl_8_77 wp_125 wl_1_10 wl_8_78 hd_X10_granted (by rw [e3]; decide) (by decide) dX10_undo_82 (?_ : Sd X 85 [(0, 20), (1, 0), (2, 0)] [0] _)
      exact sd_zreturn hC hT dX10_undo_85
    · refine sd_aload_n hC 20 dX10_undo_39 rfl (by decide) (by decide) (?_ : Sd X 40 [(0, 20), (1, 0), (2, 0)] [20] _)
      refine sd_get hC (ci := 10) (j := 16) (C := RX10) (T := TX10) (N := 45) rfl rfl (by decide) in_X10 wl_5_180 dX10_undo_40 (?_ : Sd X 43 [(0, 20), (1, 0), (2, 0)] [100] _)
      refine sd_iload_n hC dX10_undo_43 rfl (by decide) (?_ : Sd X 44 [(0, 20), (1, 0), (2, 0)] [0, 100] _)
      refine sd_aload_n hC 20 dX10_undo_44 rfl (by decide) (by decide) (?_ : Sd X 45 [(0, 20), (1, 0), (2, 0)] [20, 0, 100] _)
      refine sd_get hC (ci := 10) (j := 42) (C := RX10) (T := TX10) (N := 45) rfl rfl (by decide) in_X10 wl_5_206 dX10_undo_45 (?_ : Sd X 48 [(0, 20), (1, 0), (2, 0)] [100, 0, 100] _)
      refine sd_iload_n hC dX10_undo_48 rfl (by decide) (?_ : Sd X 49 [(0, 20), (1, 0), (2, 0)] [0, 100, 0, 100] _)
      refine sd_aload_n hC 20 dX10_undo_49 rfl (by decide) (by decide) (?_ : Sd X 50 [(0, 20), (1, 0), (2, 0)] [20, 0, 100, 0, 100] _)
      refine sd_get hC (ci := 10) (j := 44) (C := RX10) (T := TX10) (N := 45) rfl rfl (by decide) in_X10 wl_5_208 dX10_undo_50 (?_ : Sd X 53 [(0, 20), (1, 0), (2, 0)] [0, 0, 100, 0, 100] _)
      refine sd_imul hC dX10_undo_53 (?_ : Sd X 54 [(0, 20), (1, 0), (2, 0)] [0, 100, 0, 100] _)
      refine sd_iload_n hC dX10_undo_54 rfl (by decide) (?_ : Sd X 55 [(0, 20), (1, 0), (2, 0)] [0, 0, 100, 0, 100] _)
      refine sd_iadd hC dX10_undo_55 (?_ : Sd X 56 [(0, 20), (1, 0), (2, 0)] [0, 100, 0, 100] _)
      refine sd_iaload hC dX10_undo_56 (?_ : Sd X 57 [(0, 20), (1, 0), (2, 0)] [0, 0, 100] _)
      refine sd_iastore hC dX10_undo_57 (?_ : Sd X 58 [(0, 20), (1, 0), (2, 0)] [] _)
      refine sd_iinc (Γ' := [(0, 20), (1, 0), (2, 0)]) hC dX10_undo_58 (by decide) (by rw [e2]; decide) (by decide) (?_ : Sd X 61 [(0, 20), (1, 0), (2, 0)] [] _)
      refine sd_goto (tgt := 34) hC dX10_undo_61 rfl (?_ : Sd X 34 [(0, 20), (1, 0), (2, 0)] [] _)
      exact Sd.weak (by decide) h34
  refine (?_ : Sd X 0 [(0, 20)] [] (E_X10_undo Q))
  unfold E_X10_undo
  refine sd_aload_n hC 20 dX10_undo_0 rfl (by decide) (by decide) (?_ : Sd X 1 [(0, 20)] [20] _)
  refine sd_iconst hC dX10_undo_1 ⟨by decide, by decide⟩ (?_ : Sd X 2 [(0, 20)] [0, 20] _)
  refine sd_put hC (ci := 10) (j := 0) (C := RX10) (T := TX10) (N := 45) tyX10 tyX10_ok nmX10 rfl rfl (by decide) in_X10 rfl rfl wl_5_164 dX10_undo_2 (?_ : Sd X 5 [(0, 20)] [] _)
  refine sd_aload_n hC 20 dX10_undo_5 rfl (by decide) (by decide) (?_ : Sd X 6 [(0, 20)] [20] _)
  refine sd_get hC (ci := 10) (j := 44) (C := RX10) (T := TX10) (N := 45) rfl rfl (by decide) in_X10 wl_5_208 dX10_undo_6 (?_ : Sd X 9 [(0, 20)] [0] _)
  refine sd_if_ne (tgt := 19) hC dX10_undo_9 rfl (?_ : Sd X 19 [(0, 20)] [] _) (?_ : Sd X 12 [(0, 20)] [] _)
  · refine sd_aload_n hC 20 dX10_undo_19 rfl (by decide) (by decide) (?_ : Sd X 20 [(0, 20)] [20] _)
    refine sd_dup hC (by decide) dX10_undo_20 (?_ : Sd X 21 [(0, 20)] [20, 20] _)
    refine sd_get hC (ci := 10) (j := 44) (C := RX10) (T := TX10) (N := 45) rfl rfl (by decide) in_X10 wl_5_208 dX10_undo_21 (?_ : Sd X 24 [(0, 20)] [0, 20] _)
    refine sd_iconst hC dX10_undo_24 ⟨by decide, by decide⟩ (?_ : Sd X 25 [(0, 20)] [0, 0, 20] _)
    refine sd_isub hC dX10_undo_25 (?_ : Sd X 26 [(0, 20)] [0, 20] _)
    refine sd_put hC (ci := 10) (j := 44) (C := RX10) (T := TX10) (N := 45) tyX10 tyX10_ok nmX10 rfl rfl (by decide) in_X10 rfl rfl wl_5_208 dX10_undo_26 (?_ : Sd X 29 [(0, 20)] [] _)
    refine sd_bipush hC dX10_undo_29 (by decide) (?_ : Sd X 31 [(0, 20)] [0] _)
    refine sd_istore_n (Γ' := [(0, 20), (1, 0)]) hC dX10_undo_31 rfl (by rw [e2]; decide) (by decide) (?_ : Sd X 32 [(0, 20), (1, 0)] [] _)
    refine sd_iconst hC dX10_undo_32 ⟨by decide, by decide⟩ (?_ : Sd X 33 [(0, 20), (1, 0)] [0] _)
    refine sd_istore_n (Γ' := [(0, 20), (1, 0), (2, 0)]) hC dX10_undo_33 rfl (by rw [e2]; decide) (by decide) (?_ : Sd X 34 [(0, 20), (1, 0), (2, 0)] [] _)
    exact Sd.weak (by decide) (S_34)
  · refine sd_aload_n hC 20 dX10_undo_12 rfl (by decide) (by decide) (?_ : Sd X 13 [(0, 20)] [20] _)
    refine sd_bipush hC dX10_undo_13 (by decide) (?_ : Sd X 15 [(0, 20)] [0, 20] _)
    refine sd_inv0 (τ := []) (τr := [0]) (ci := 10) (q := (RX10, TX10, 45)) hC WG (M_X10_denied _) rfl rfl rfl rfl  rfl rfl wl_8_71 wl_8_73 wp_124 wl_1_10 wl_8_74 hd_X10_denied (by rw [e3]; decide) (by decide) dX10_undo_15 (?_ : Sd X 18 [(0, 20)] [0] _)
    exact sd_zreturn hC hT dX10_undo_18
theorem hd_X10_waited : yX10_waited.cls ≠ "java/lang/invoke/MethodHandle" ∧ yX10_waited.cls ≠ "java/lang/invoke/VarHandle" ∧ (parseMethodDescriptor yX10_waited.desc).map (fun d => d.parameters.length) = some 0 := by decide +kernel
set_option maxRecDepth 100000 in
set_option maxHeartbeats 4000000 in
theorem M_X10_waited (l : Launch) : Mt l yX10_waited (Cond.code yX10_waited cX10_waited 3 (some .int) :: WALL) { frames := 1, cells := 0, slots := 0, locals := 21 } [20] (some 0) T_X10_waited := by
  refine Mt.mk (B := E_X10_waited) (by decide +kernel) (by decide) (fun _ _ _ hh => hh) ?_
  intro X Q e1 e2 e3 hC hN hT
  subst e1
  have hC : CF X cX10_waited RX10 WALL := hC
  have S_22 : Sd X 22 [(0, 20), (1, 0), (2, 0)] [] (L_X10_waited_22 Q) := by
    unfold L_X10_waited_22
    refine Sd.loop (fun k22 h22 => ?_)
    refine sd_iload_n hC dX10_waited_22 rfl (by decide) (?_ : Sd X 23 [(0, 20), (1, 0), (2, 0)] [0] _)
    refine sd_aload_n hC 20 dX10_waited_23 rfl (by decide) (by decide) (?_ : Sd X 24 [(0, 20), (1, 0), (2, 0)] [20, 0] _)
    refine sd_get hC (ci := 10) (j := 38) (C := RX10) (T := TX10) (N := 45) rfl rfl (by decide) in_X10 wl_5_202 dX10_waited_24 (?_ : Sd X 27 [(0, 20), (1, 0), (2, 0)] [0, 0] _)
    refine sd_icmp_ge (tgt := 50) hC dX10_waited_27 rfl (?_ : Sd X 50 [(0, 20), (1, 0), (2, 0)] [] _) (?_ : Sd X 30 [(0, 20), (1, 0), (2, 0)] [] _)
    · refine sd_aload_n hC 20 dX10_waited_50 rfl (by decide) (by decide) (?_ : Sd X 51 [(0, 20), (1, 0), (2, 0)] [20] _)
      refine sd_iload_n hC dX10_waited_51 rfl (by decide) (?_ : Sd X 52 [(0, 20), (1, 0), (2, 0)] [0, 20] _)
      refine sd_inv0 (τ := []) (τr := [0]) (ci := 10) (q := (RX10, TX10, 45)) hC WG (M_X10_good _) rfl rfl rfl rfl  rfl rfl wl_7_171 wl_7_173 wp_105 wl_1_10 wl_7_174 hd_X10_good (by rw [e3]; decide) (by decide) dX10_waited_52 (?_ : Sd X 55 [(0, 20), (1, 0), (2, 0)] [0] _)
      exact sd_ireturn hC hT dX10_waited_55
    · refine sd_iload_n hC dX10_waited_30 rfl (by decide) (?_ : Sd X 31 [(0, 20), (1, 0), (2, 0)] [0] _)
      refine sd_aload_n hC 20 dX10_waited_31 rfl (by decide) (by decide) (?_ : Sd X 32 [(0, 20), (1, 0), (2, 0)] [20, 0] _)
      refine sd_get hC (ci := 10) (j := 32) (C := RX10) (T := TX10) (N := 45) rfl rfl (by decide) in_X10 wl_5_196 dX10_waited_32 (?_ : Sd X 35 [(0, 20), (1, 0), (2, 0)] [100, 0] _)
      refine sd_bipush hC dX10_waited_35 (by decide) (?_ : Sd X 37 [(0, 20), (1, 0), (2, 0)] [0, 100, 0] _)
      refine sd_iload_n hC dX10_waited_37 rfl (by decide) (?_ : Sd X 38 [(0, 20), (1, 0), (2, 0)] [0, 0, 100, 0] _)
      refine sd_imul hC dX10_waited_38 (?_ : Sd X 39 [(0, 20), (1, 0), (2, 0)] [0, 100, 0] _)
      refine sd_iconst hC dX10_waited_39 ⟨by decide, by decide⟩ (?_ : Sd X 40 [(0, 20), (1, 0), (2, 0)] [0, 0, 100, 0] _)
      refine sd_iadd hC dX10_waited_40 (?_ : Sd X 41 [(0, 20), (1, 0), (2, 0)] [0, 100, 0] _)
      refine sd_iaload hC dX10_waited_41 (?_ : Sd X 42 [(0, 20), (1, 0), (2, 0)] [0, 0] _)
      refine sd_iadd hC dX10_waited_42 (?_ : Sd X 43 [(0, 20), (1, 0), (2, 0)] [0] _)
      refine sd_istore_n (Γ' := [(0, 20), (1, 0), (2, 0)]) hC dX10_waited_43 rfl (by rw [e2]; decide) (by decide) (?_ : Sd X 44 [(0, 20), (1, 0), (2, 0)] [] _)
      refine sd_iinc (Γ' := [(0, 20), (1, 0), (2, 0)]) hC dX10_waited_44 (by decide) (by rw [e2]; decide) (by decide) (?_ : Sd X 47 [(0, 20), (1, 0), (2, 0)] [] _)
      refine sd_goto (tgt := 22) hC dX10_waited_47 rfl (?_ : Sd X 22 [(0, 20), (1, 0), (2, 0)] [] _)
      exact Sd.weak (by decide) h22
  refine (?_ : Sd X 0 [(0, 20)] [] (E_X10_waited Q))
  unfold E_X10_waited
  refine sd_aload_n hC 20 dX10_waited_0 rfl (by decide) (by decide) (?_ : Sd X 1 [(0, 20)] [20] _)
  refine sd_iconst hC dX10_waited_1 ⟨by decide, by decide⟩ (?_ : Sd X 2 [(0, 20)] [0, 20] _)
  refine sd_put hC (ci := 10) (j := 0) (C := RX10) (T := TX10) (N := 45) tyX10 tyX10_ok nmX10 rfl rfl (by decide) in_X10 rfl rfl wl_5_164 dX10_waited_2 (?_ : Sd X 5 [(0, 20)] [] _)
  refine sd_aload_n hC 20 dX10_waited_5 rfl (by decide) (by decide) (?_ : Sd X 6 [(0, 20)] [20] _)
  refine sd_get hC (ci := 10) (j := 3) (C := RX10) (T := TX10) (N := 45) rfl rfl (by decide) in_X10 wl_5_167 dX10_waited_6 (?_ : Sd X 9 [(0, 20)] [19] _)
  refine sd_ifnonnull (tgt := 18) hC (by decide) dX10_waited_9 rfl (?_ : Sd X 18 [(0, 20)] [] _) (?_ : Sd X 12 [(0, 20)] [] _)
  · refine sd_iconst hC dX10_waited_18 ⟨by decide, by decide⟩ (?_ : Sd X 19 [(0, 20)] [0] _)
    refine sd_istore_n (Γ' := [(0, 20), (1, 0)]) hC dX10_waited_19 rfl (by rw [e2]; decide) (by decide) (?_ : Sd X 20 [(0, 20), (1, 0)] [] _)
    refine sd_iconst hC dX10_waited_20 ⟨by decide, by decide⟩ (?_ : Sd X 21 [(0, 20), (1, 0)] [0] _)
    refine sd_istore_n (Γ' := [(0, 20), (1, 0), (2, 0)]) hC dX10_waited_21 rfl (by rw [e2]; decide) (by decide) (?_ : Sd X 22 [(0, 20), (1, 0), (2, 0)] [] _)
    exact Sd.weak (by decide) (S_22)
  · refine sd_aload_n hC 20 dX10_waited_12 rfl (by decide) (by decide) (?_ : Sd X 13 [(0, 20)] [20] _)
    refine sd_iconst hC dX10_waited_13 ⟨by decide, by decide⟩ (?_ : Sd X 14 [(0, 20)] [0, 20] _)
    refine sd_inv0 (τ := []) (τr := [0]) (ci := 10) (q := (RX10, TX10, 45)) hC WG (M_X10_refused _) rfl rfl rfl rfl  rfl rfl wl_6_72 wl_6_74 wp_63 wl_1_10 wl_6_75 hd_X10_refused (by rw [e3]; decide) (by decide) dX10_waited_14 (?_ : Sd X 17 [(0, 20)] [0] _)
    exact sd_ireturn hC hT dX10_waited_17
theorem hd_X10_where : yX10_where.cls ≠ "java/lang/invoke/MethodHandle" ∧ yX10_where.cls ≠ "java/lang/invoke/VarHandle" ∧ (parseMethodDescriptor yX10_where.desc).map (fun d => d.parameters.length) = some 0 := by decide +kernel
set_option maxRecDepth 100000 in
set_option maxHeartbeats 4000000 in
theorem M_X10_where (l : Launch) : Mt l yX10_where (Cond.code yX10_where cX10_where 1 (some .int) :: WALL) { frames := 0, cells := 0, slots := 0, locals := 0 } [20] (some 0) T_X10_where := by
  refine Mt.mk (B := E_X10_where) (by decide +kernel) (by decide) (fun _ _ _ hh => hh) ?_
  intro X Q e1 e2 e3 hC hN hT
  subst e1
  have hC : CF X cX10_where RX10 WALL := hC
  refine (?_ : Sd X 0 [(0, 20)] [] (E_X10_where Q))
  unfold E_X10_where
  refine sd_aload_n hC 20 dX10_where_0 rfl (by decide) (by decide) (?_ : Sd X 1 [(0, 20)] [20] _)
  refine sd_iconst hC dX10_where_1 ⟨by decide, by decide⟩ (?_ : Sd X 2 [(0, 20)] [0, 20] _)
  refine sd_put hC (ci := 10) (j := 0) (C := RX10) (T := TX10) (N := 45) tyX10 tyX10_ok nmX10 rfl rfl (by decide) in_X10 rfl rfl wl_5_164 dX10_where_2 (?_ : Sd X 5 [(0, 20)] [] _)
  refine sd_aload_n hC 20 dX10_where_5 rfl (by decide) (by decide) (?_ : Sd X 6 [(0, 20)] [20] _)
  refine sd_get hC (ci := 10) (j := 2) (C := RX10) (T := TX10) (N := 45) rfl rfl (by decide) in_X10 wl_5_166 dX10_where_6 (?_ : Sd X 9 [(0, 20)] [0] _)
  exact sd_ireturn hC hT dX10_where_9
theorem hd_X10_widen : yX10_widen.cls ≠ "java/lang/invoke/MethodHandle" ∧ yX10_widen.cls ≠ "java/lang/invoke/VarHandle" ∧ (parseMethodDescriptor yX10_widen.desc).map (fun d => d.parameters.length) = some 3 := by decide +kernel
set_option maxRecDepth 100000 in
set_option maxHeartbeats 4000000 in
theorem M_X10_widen (l : Launch) : Mt l yX10_widen (Cond.code yX10_widen cX10_widen 5 (some .boolean) :: WALL) { frames := 8, cells := 0, slots := 0, locals := 195 } [20, 0, 0, 0] (some 0) T_X10_widen := by
  refine Mt.mk (B := E_X10_widen) (by decide +kernel) (by decide) (fun _ _ _ hh => hh) ?_
  intro X Q e1 e2 e3 hC hN hT
  subst e1
  have hC : CF X cX10_widen RX10 WALL := hC
  have S_33 : Sd X 33 [(0, 20), (1, 0), (2, 0), (3, 0)] [] (B_X10_widen_33 Q) := by
    unfold B_X10_widen_33
    refine sd_aload_n hC 20 dX10_widen_33 rfl (by decide) (by decide) (?_ : Sd X 34 [(0, 20), (1, 0), (2, 0), (3, 0)] [20] _)
    refine sd_iconst hC dX10_widen_34 ⟨by decide, by decide⟩ (?_ : Sd X 35 [(0, 20), (1, 0), (2, 0), (3, 0)] [0, 20] _)
    refine sd_inv0 (τ := []) (τr := [0]) (ci := 10) (q := (RX10, TX10, 45)) hC WG (M_X10_denied _) rfl rfl rfl rfl  rfl rfl wl_8_71 wl_8_73 wp_124 wl_1_10 wl_8_74 hd_X10_denied (by rw [e3]; decide) (by decide) dX10_widen_35 (?_ : Sd X 38 [(0, 20), (1, 0), (2, 0), (3, 0)] [0] _)
    exact sd_zreturn hC hT dX10_widen_38
  have S_70 : Sd X 70 [(0, 20), (1, 0), (2, 0), (3, 0)] [] (B_X10_widen_70 Q) := by
    unfold B_X10_widen_70
    refine sd_aload_n hC 20 dX10_widen_70 rfl (by decide) (by decide) (?_ : Sd X 71 [(0, 20), (1, 0), (2, 0), (3, 0)] [20] _)
    refine sd_iconst hC dX10_widen_71 ⟨by decide, by decide⟩ (?_ : Sd X 72 [(0, 20), (1, 0), (2, 0), (3, 0)] [0, 20] _)
    refine sd_inv0 (τ := []) (τr := [0]) (ci := 10) (q := (RX10, TX10, 45)) hC WG (M_X10_denied _) rfl rfl rfl rfl  rfl rfl wl_8_71 wl_8_73 wp_124 wl_1_10 wl_8_74 hd_X10_denied (by rw [e3]; decide) (by decide) dX10_widen_72 (?_ : Sd X 75 [(0, 20), (1, 0), (2, 0), (3, 0)] [0] _)
    exact sd_zreturn hC hT dX10_widen_75
  have S_155 : Sd X 155 [(0, 20), (1, 0), (2, 0), (3, 0), (4, 0)] [0, 0, 100] (B_X10_widen_155 Q) := by
    unfold B_X10_widen_155
    refine sd_iastore hC dX10_widen_155 (?_ : Sd X 156 [(0, 20), (1, 0), (2, 0), (3, 0), (4, 0)] [] _)
    refine sd_aload_n hC 20 dX10_widen_156 rfl (by decide) (by decide) (?_ : Sd X 157 [(0, 20), (1, 0), (2, 0), (3, 0), (4, 0)] [20] _)
    refine sd_inv0v (τ := []) (τr := []) (ci := 10) (q := (RX10, TX10, 45)) hC WG (M_X10_dawns _) rfl rfl rfl rfl  rfl rfl wl_7_87 wl_7_89 wp_86 wl_1_10 wl_7_90 hd_X10_dawns (by rw [e3]; decide) (by decide) dX10_widen_157 (?_ : Sd X 160 [(0, 20), (1, 0), (2, 0), (3, 0), (4, 0)] [] _)
    refine sd_aload_n hC 20 dX10_widen_160 rfl (by decide) (by decide) (?_ : Sd X 161 [(0, 20), (1, 0), (2, 0), (3, 0), (4, 0)] [20] _)
    refine sd_inv0 (τ := []) (τr := []) (ci := 10) (q := (RX10, TX10, 45)) hC WG (M_X10_granted _) rfl rfl rfl rfl  rfl rfl wl_8_75 wl_8_77 wp_125 wl_1_10 wl_8_78 hd_X10_granted (by rw [e3]; decide) (by decide) dX10_widen_161 (?_ : Sd X 164 [(0, 20), (1, 0), (2, 0), (3, 0), (4, 0)] [0] _)
    exact sd_zreturn hC hT dX10_widen_164
  have S_120 : Sd X 120 [(0, 20), (1, 0), (2, 0), (3, 0), (4, 0)] [0, 0, 100] (B_X10_widen_120 Q) := by
    unfold B_X10_widen_120
    refine sd_iastore hC dX10_widen_120 (?_ : Sd X 121 [(0, 20), (1, 0), (2, 0), (3, 0), (4, 0)] [] _)
    refine sd_aload_n hC 20 dX10_widen_121 rfl (by decide) (by decide) (?_ : Sd X 122 [(0, 20), (1, 0), (2, 0), (3, 0), (4, 0)] [20] _)
    refine sd_get hC (ci := 10) (j := 16) (C := RX10) (T := TX10) (N := 45) rfl rfl (by decide) in_X10 wl_5_180 dX10_widen_122 (?_ : Sd X 125 [(0, 20), (1, 0), (2, 0), (3, 0), (4, 0)] [100] _)
    refine sd_iload hC dX10_widen_125 (by decide) (?_ : Sd X 127 [(0, 20), (1, 0), (2, 0), (3, 0), (4, 0)] [0, 100] _)
    refine sd_iconst hC dX10_widen_127 ⟨by decide, by decide⟩ (?_ : Sd X 128 [(0, 20), (1, 0), (2, 0), (3, 0), (4, 0)] [0, 0, 100] _)
    refine sd_iadd hC dX10_widen_128 (?_ : Sd X 129 [(0, 20), (1, 0), (2, 0), (3, 0), (4, 0)] [0, 100] _)
    refine sd_iload_n hC dX10_widen_129 rfl (by decide) (?_ : Sd X 130 [(0, 20), (1, 0), (2, 0), (3, 0), (4, 0)] [0, 0, 100] _)
    refine sd_aload_n hC 20 dX10_widen_130 rfl (by decide) (by decide) (?_ : Sd X 131 [(0, 20), (1, 0), (2, 0), (3, 0), (4, 0)] [20, 0, 0, 100] _)
    refine sd_get hC (ci := 10) (j := 16) (C := RX10) (T := TX10) (N := 45) rfl rfl (by decide) in_X10 wl_5_180 dX10_widen_131 (?_ : Sd X 134 [(0, 20), (1, 0), (2, 0), (3, 0), (4, 0)] [100, 0, 0, 100] _)
    refine sd_iload hC dX10_widen_134 (by decide) (?_ : Sd X 136 [(0, 20), (1, 0), (2, 0), (3, 0), (4, 0)] [0, 100, 0, 0, 100] _)
    refine sd_iconst hC dX10_widen_136 ⟨by decide, by decide⟩ (?_ : Sd X 137 [(0, 20), (1, 0), (2, 0), (3, 0), (4, 0)] [0, 0, 100, 0, 0, 100] _)
    refine sd_iadd hC dX10_widen_137 (?_ : Sd X 138 [(0, 20), (1, 0), (2, 0), (3, 0), (4, 0)] [0, 100, 0, 0, 100] _)
    refine sd_iaload hC dX10_widen_138 (?_ : Sd X 139 [(0, 20), (1, 0), (2, 0), (3, 0), (4, 0)] [0, 0, 0, 100] _)
    refine sd_icmp_le (tgt := 146) hC dX10_widen_139 rfl (?_ : Sd X 146 [(0, 20), (1, 0), (2, 0), (3, 0), (4, 0)] [0, 100] _) (?_ : Sd X 142 [(0, 20), (1, 0), (2, 0), (3, 0), (4, 0)] [0, 100] _)
    · refine sd_aload_n hC 20 dX10_widen_146 rfl (by decide) (by decide) (?_ : Sd X 147 [(0, 20), (1, 0), (2, 0), (3, 0), (4, 0)] [20, 0, 100] _)
      refine sd_get hC (ci := 10) (j := 16) (C := RX10) (T := TX10) (N := 45) rfl rfl (by decide) in_X10 wl_5_180 dX10_widen_147 (?_ : Sd X 150 [(0, 20), (1, 0), (2, 0), (3, 0), (4, 0)] [100, 0, 100] _)
      refine sd_iload hC dX10_widen_150 (by decide) (?_ : Sd X 152 [(0, 20), (1, 0), (2, 0), (3, 0), (4, 0)] [0, 100, 0, 100] _)
      refine sd_iconst hC dX10_widen_152 ⟨by decide, by decide⟩ (?_ : Sd X 153 [(0, 20), (1, 0), (2, 0), (3, 0), (4, 0)] [0, 0, 100, 0, 100] _)
      refine sd_iadd hC dX10_widen_153 (?_ : Sd X 154 [(0, 20), (1, 0), (2, 0), (3, 0), (4, 0)] [0, 100, 0, 100] _)
      refine sd_iaload hC dX10_widen_154 (?_ : Sd X 155 [(0, 20), (1, 0), (2, 0), (3, 0), (4, 0)] [0, 0, 100] _)
      exact Sd.weak (by decide) (S_155)
    · refine sd_iload_n hC dX10_widen_142 rfl (by decide) (?_ : Sd X 143 [(0, 20), (1, 0), (2, 0), (3, 0), (4, 0)] [0, 0, 100] _)
      refine sd_goto (tgt := 155) hC dX10_widen_143 rfl (?_ : Sd X 155 [(0, 20), (1, 0), (2, 0), (3, 0), (4, 0)] [0, 0, 100] _)
      exact Sd.weak (by decide) (S_155)
  have S_76 : Sd X 76 [(0, 20), (1, 0), (2, 0), (3, 0)] [] (B_X10_widen_76 Q) := by
    unfold B_X10_widen_76
    refine sd_aload_n hC 20 dX10_widen_76 rfl (by decide) (by decide) (?_ : Sd X 77 [(0, 20), (1, 0), (2, 0), (3, 0)] [20] _)
    refine sd_inv0v (τ := []) (τr := []) (ci := 10) (q := (RX10, TX10, 45)) hC WG (M_X10_keeps _) rfl rfl rfl rfl  rfl rfl wl_8_170 wl_8_172 wp_130 wl_1_10 wl_8_173 hd_X10_keeps (by rw [e3]; decide) (by decide) dX10_widen_77 (?_ : Sd X 80 [(0, 20), (1, 0), (2, 0), (3, 0)] [] _)
    refine sd_bipush hC dX10_widen_80 (by decide) (?_ : Sd X 82 [(0, 20), (1, 0), (2, 0), (3, 0)] [0] _)
    refine sd_iload_n hC dX10_widen_82 rfl (by decide) (?_ : Sd X 83 [(0, 20), (1, 0), (2, 0), (3, 0)] [0, 0] _)
    refine sd_imul hC dX10_widen_83 (?_ : Sd X 84 [(0, 20), (1, 0), (2, 0), (3, 0)] [0] _)
    refine sd_istore (Γ' := [(0, 20), (1, 0), (2, 0), (3, 0), (4, 0)]) hC dX10_widen_84 (by rw [e2]; decide) (by decide) (?_ : Sd X 86 [(0, 20), (1, 0), (2, 0), (3, 0), (4, 0)] [] _)
    refine sd_aload_n hC 20 dX10_widen_86 rfl (by decide) (by decide) (?_ : Sd X 87 [(0, 20), (1, 0), (2, 0), (3, 0), (4, 0)] [20] _)
    refine sd_get hC (ci := 10) (j := 16) (C := RX10) (T := TX10) (N := 45) rfl rfl (by decide) in_X10 wl_5_180 dX10_widen_87 (?_ : Sd X 90 [(0, 20), (1, 0), (2, 0), (3, 0), (4, 0)] [100] _)
    refine sd_iload hC dX10_widen_90 (by decide) (?_ : Sd X 92 [(0, 20), (1, 0), (2, 0), (3, 0), (4, 0)] [0, 100] _)
    refine sd_iconst hC dX10_widen_92 ⟨by decide, by decide⟩ (?_ : Sd X 93 [(0, 20), (1, 0), (2, 0), (3, 0), (4, 0)] [0, 0, 100] _)
    refine sd_iadd hC dX10_widen_93 (?_ : Sd X 94 [(0, 20), (1, 0), (2, 0), (3, 0), (4, 0)] [0, 100] _)
    refine sd_iload_n hC dX10_widen_94 rfl (by decide) (?_ : Sd X 95 [(0, 20), (1, 0), (2, 0), (3, 0), (4, 0)] [0, 0, 100] _)
    refine sd_aload_n hC 20 dX10_widen_95 rfl (by decide) (by decide) (?_ : Sd X 96 [(0, 20), (1, 0), (2, 0), (3, 0), (4, 0)] [20, 0, 0, 100] _)
    refine sd_get hC (ci := 10) (j := 16) (C := RX10) (T := TX10) (N := 45) rfl rfl (by decide) in_X10 wl_5_180 dX10_widen_96 (?_ : Sd X 99 [(0, 20), (1, 0), (2, 0), (3, 0), (4, 0)] [100, 0, 0, 100] _)
    refine sd_iload hC dX10_widen_99 (by decide) (?_ : Sd X 101 [(0, 20), (1, 0), (2, 0), (3, 0), (4, 0)] [0, 100, 0, 0, 100] _)
    refine sd_iconst hC dX10_widen_101 ⟨by decide, by decide⟩ (?_ : Sd X 102 [(0, 20), (1, 0), (2, 0), (3, 0), (4, 0)] [0, 0, 100, 0, 0, 100] _)
    refine sd_iadd hC dX10_widen_102 (?_ : Sd X 103 [(0, 20), (1, 0), (2, 0), (3, 0), (4, 0)] [0, 100, 0, 0, 100] _)
    refine sd_iaload hC dX10_widen_103 (?_ : Sd X 104 [(0, 20), (1, 0), (2, 0), (3, 0), (4, 0)] [0, 0, 0, 100] _)
    refine sd_icmp_le (tgt := 111) hC dX10_widen_104 rfl (?_ : Sd X 111 [(0, 20), (1, 0), (2, 0), (3, 0), (4, 0)] [0, 100] _) (?_ : Sd X 107 [(0, 20), (1, 0), (2, 0), (3, 0), (4, 0)] [0, 100] _)
    · refine sd_aload_n hC 20 dX10_widen_111 rfl (by decide) (by decide) (?_ : Sd X 112 [(0, 20), (1, 0), (2, 0), (3, 0), (4, 0)] [20, 0, 100] _)
      refine sd_get hC (ci := 10) (j := 16) (C := RX10) (T := TX10) (N := 45) rfl rfl (by decide) in_X10 wl_5_180 dX10_widen_112 (?_ : Sd X 115 [(0, 20), (1, 0), (2, 0), (3, 0), (4, 0)] [100, 0, 100] _)
      refine sd_iload hC dX10_widen_115 (by decide) (?_ : Sd X 117 [(0, 20), (1, 0), (2, 0), (3, 0), (4, 0)] [0, 100, 0, 100] _)
      refine sd_iconst hC dX10_widen_117 ⟨by decide, by decide⟩ (?_ : Sd X 118 [(0, 20), (1, 0), (2, 0), (3, 0), (4, 0)] [0, 0, 100, 0, 100] _)
      refine sd_iadd hC dX10_widen_118 (?_ : Sd X 119 [(0, 20), (1, 0), (2, 0), (3, 0), (4, 0)] [0, 100, 0, 100] _)
      refine sd_iaload hC dX10_widen_119 (?_ : Sd X 120 [(0, 20), (1, 0), (2, 0), (3, 0), (4, 0)] [0, 0, 100] _)
      exact Sd.weak (by decide) (S_120)
    · refine sd_iload_n hC dX10_widen_107 rfl (by decide) (?_ : Sd X 108 [(0, 20), (1, 0), (2, 0), (3, 0), (4, 0)] [0, 0, 100] _)
      refine sd_goto (tgt := 120) hC dX10_widen_108 rfl (?_ : Sd X 120 [(0, 20), (1, 0), (2, 0), (3, 0), (4, 0)] [0, 0, 100] _)
      exact Sd.weak (by decide) (S_120)
  refine (?_ : Sd X 0 [(0, 20), (1, 0), (2, 0), (3, 0)] [] (E_X10_widen Q))
  unfold E_X10_widen
  refine sd_aload_n hC 20 dX10_widen_0 rfl (by decide) (by decide) (?_ : Sd X 1 [(0, 20), (1, 0), (2, 0), (3, 0)] [20] _)
  refine sd_iconst hC dX10_widen_1 ⟨by decide, by decide⟩ (?_ : Sd X 2 [(0, 20), (1, 0), (2, 0), (3, 0)] [0, 20] _)
  refine sd_put hC (ci := 10) (j := 0) (C := RX10) (T := TX10) (N := 45) tyX10 tyX10_ok nmX10 rfl rfl (by decide) in_X10 rfl rfl wl_5_164 dX10_widen_2 (?_ : Sd X 5 [(0, 20), (1, 0), (2, 0), (3, 0)] [] _)
  refine sd_aload_n hC 20 dX10_widen_5 rfl (by decide) (by decide) (?_ : Sd X 6 [(0, 20), (1, 0), (2, 0), (3, 0)] [20] _)
  refine sd_iload_n hC dX10_widen_6 rfl (by decide) (?_ : Sd X 7 [(0, 20), (1, 0), (2, 0), (3, 0)] [0, 20] _)
  refine sd_inv0 (τ := []) (τr := [0]) (ci := 10) (q := (RX10, TX10, 45)) hC WG (M_X10_isGate _) rfl rfl rfl rfl  rfl rfl wl_7_187 wl_7_189 wp_106 wl_1_10 wl_7_190 hd_X10_isGate (by rw [e3]; decide) (by decide) dX10_widen_7 (?_ : Sd X 10 [(0, 20), (1, 0), (2, 0), (3, 0)] [0] _)
  refine sd_if_ne (tgt := 19) hC dX10_widen_10 rfl (?_ : Sd X 19 [(0, 20), (1, 0), (2, 0), (3, 0)] [] _) (?_ : Sd X 13 [(0, 20), (1, 0), (2, 0), (3, 0)] [] _)
  · refine sd_iload_n hC dX10_widen_19 rfl (by decide) (?_ : Sd X 20 [(0, 20), (1, 0), (2, 0), (3, 0)] [0] _)
    refine sd_invs (τ := []) (τs := [0]) hC false "" WG (M_X10_isSize _) rfl rfl rfl rfl wl_8_119 wl_8_120 wl_1_10 wl_8_121 hd_X10_isSize (by rw [e3]; decide) (by decide) dX10_widen_20 (?_ : Sd X 23 [(0, 20), (1, 0), (2, 0), (3, 0)] [0] _)
    refine sd_if_eq (tgt := 33) hC dX10_widen_23 rfl (?_ : Sd X 33 [(0, 20), (1, 0), (2, 0), (3, 0)] [] _) (?_ : Sd X 26 [(0, 20), (1, 0), (2, 0), (3, 0)] [] _)
    · exact Sd.weak (by decide) (S_33)
    · refine sd_iload_n hC dX10_widen_26 rfl (by decide) (?_ : Sd X 27 [(0, 20), (1, 0), (2, 0), (3, 0)] [0] _)
      refine sd_invs (τ := []) (τs := [0]) hC false "" WG (M_X10_isSize _) rfl rfl rfl rfl wl_8_119 wl_8_120 wl_1_10 wl_8_121 hd_X10_isSize (by rw [e3]; decide) (by decide) dX10_widen_27 (?_ : Sd X 30 [(0, 20), (1, 0), (2, 0), (3, 0)] [0] _)
      refine sd_if_ne (tgt := 39) hC dX10_widen_30 rfl (?_ : Sd X 39 [(0, 20), (1, 0), (2, 0), (3, 0)] [] _) (?_ : Sd X 33 [(0, 20), (1, 0), (2, 0), (3, 0)] [] _)
      · refine sd_aload_n hC 20 dX10_widen_39 rfl (by decide) (by decide) (?_ : Sd X 40 [(0, 20), (1, 0), (2, 0), (3, 0)] [20] _)
        refine sd_iload_n hC dX10_widen_40 rfl (by decide) (?_ : Sd X 41 [(0, 20), (1, 0), (2, 0), (3, 0)] [0, 20] _)
        refine sd_bipush hC dX10_widen_41 (by decide) (?_ : Sd X 43 [(0, 20), (1, 0), (2, 0), (3, 0)] [0, 0, 20] _)
        refine sd_inv0 (τ := []) (τr := [0, 0]) (ci := 10) (q := (RX10, TX10, 45)) hC WG (M_X10_of _) rfl rfl rfl rfl  rfl rfl wl_7_131 wl_7_133 wp_96 wl_1_10 wl_7_134 hd_X10_of (by rw [e3]; decide) (by decide) dX10_widen_43 (?_ : Sd X 46 [(0, 20), (1, 0), (2, 0), (3, 0)] [0] _)
        refine sd_iconst hC dX10_widen_46 ⟨by decide, by decide⟩ (?_ : Sd X 47 [(0, 20), (1, 0), (2, 0), (3, 0)] [0, 0] _)
        refine sd_icmp_eq (tgt := 70) hC dX10_widen_47 rfl (?_ : Sd X 70 [(0, 20), (1, 0), (2, 0), (3, 0)] [] _) (?_ : Sd X 50 [(0, 20), (1, 0), (2, 0), (3, 0)] [] _)
        · exact Sd.weak (by decide) (S_70)
        · refine sd_iload_n hC dX10_widen_50 rfl (by decide) (?_ : Sd X 51 [(0, 20), (1, 0), (2, 0), (3, 0)] [0] _)
          refine sd_aload_n hC 20 dX10_widen_51 rfl (by decide) (by decide) (?_ : Sd X 52 [(0, 20), (1, 0), (2, 0), (3, 0)] [20, 0] _)
          refine sd_iload_n hC dX10_widen_52 rfl (by decide) (?_ : Sd X 53 [(0, 20), (1, 0), (2, 0), (3, 0)] [0, 20, 0] _)
          refine sd_iconst hC dX10_widen_53 ⟨by decide, by decide⟩ (?_ : Sd X 54 [(0, 20), (1, 0), (2, 0), (3, 0)] [0, 0, 20, 0] _)
          refine sd_inv0 (τ := [0]) (τr := [0, 0]) (ci := 10) (q := (RX10, TX10, 45)) hC WG (M_X10_of _) rfl rfl rfl rfl  rfl rfl wl_7_131 wl_7_133 wp_96 wl_1_10 wl_7_134 hd_X10_of (by rw [e3]; decide) (by decide) dX10_widen_54 (?_ : Sd X 57 [(0, 20), (1, 0), (2, 0), (3, 0)] [0, 0] _)
          refine sd_icmp_gt (tgt := 76) hC dX10_widen_57 rfl (?_ : Sd X 76 [(0, 20), (1, 0), (2, 0), (3, 0)] [] _) (?_ : Sd X 60 [(0, 20), (1, 0), (2, 0), (3, 0)] [] _)
          · exact Sd.weak (by decide) (S_76)
          · refine sd_iload_n hC dX10_widen_60 rfl (by decide) (?_ : Sd X 61 [(0, 20), (1, 0), (2, 0), (3, 0)] [0] _)
            refine sd_aload_n hC 20 dX10_widen_61 rfl (by decide) (by decide) (?_ : Sd X 62 [(0, 20), (1, 0), (2, 0), (3, 0)] [20, 0] _)
            refine sd_iload_n hC dX10_widen_62 rfl (by decide) (?_ : Sd X 63 [(0, 20), (1, 0), (2, 0), (3, 0)] [0, 20, 0] _)
            refine sd_iconst hC dX10_widen_63 ⟨by decide, by decide⟩ (?_ : Sd X 64 [(0, 20), (1, 0), (2, 0), (3, 0)] [0, 0, 20, 0] _)
            refine sd_inv0 (τ := [0]) (τr := [0, 0]) (ci := 10) (q := (RX10, TX10, 45)) hC WG (M_X10_of _) rfl rfl rfl rfl  rfl rfl wl_7_131 wl_7_133 wp_96 wl_1_10 wl_7_134 hd_X10_of (by rw [e3]; decide) (by decide) dX10_widen_64 (?_ : Sd X 67 [(0, 20), (1, 0), (2, 0), (3, 0)] [0, 0] _)
            refine sd_icmp_gt (tgt := 76) hC dX10_widen_67 rfl (?_ : Sd X 76 [(0, 20), (1, 0), (2, 0), (3, 0)] [] _) (?_ : Sd X 70 [(0, 20), (1, 0), (2, 0), (3, 0)] [] _)
            · exact Sd.weak (by decide) (S_76)
            · exact Sd.weak (by decide) (S_70)
      · exact Sd.weak (by decide) (S_33)
  · refine sd_aload_n hC 20 dX10_widen_13 rfl (by decide) (by decide) (?_ : Sd X 14 [(0, 20), (1, 0), (2, 0), (3, 0)] [20] _)
    refine sd_iconst hC dX10_widen_14 ⟨by decide, by decide⟩ (?_ : Sd X 15 [(0, 20), (1, 0), (2, 0), (3, 0)] [0, 20] _)
    refine sd_inv0 (τ := []) (τr := [0]) (ci := 10) (q := (RX10, TX10, 45)) hC WG (M_X10_denied _) rfl rfl rfl rfl  rfl rfl wl_8_71 wl_8_73 wp_124 wl_1_10 wl_8_74 hd_X10_denied (by rw [e3]; decide) (by decide) dX10_widen_15 (?_ : Sd X 18 [(0, 20), (1, 0), (2, 0), (3, 0)] [0] _)
    exact sd_zreturn hC hT dX10_widen_18
theorem hd_X10_worked : yX10_worked.cls ≠ "java/lang/invoke/MethodHandle" ∧ yX10_worked.cls ≠ "java/lang/invoke/VarHandle" ∧ (parseMethodDescriptor yX10_worked.desc).map (fun d => d.parameters.length) = some 1 := by decide +kernel
set_option maxRecDepth 100000 in
set_option maxHeartbeats 4000000 in
theorem M_X10_worked (l : Launch) : Mt l yX10_worked (Cond.code yX10_worked cX10_worked 2 (some .int) :: WALL) { frames := 1, cells := 0, slots := 0, locals := 21 } [20, 0] (some 0) T_X10_worked := by
  refine Mt.mk (B := E_X10_worked) (by decide +kernel) (by decide) (fun _ _ _ hh => hh) ?_
  intro X Q e1 e2 e3 hC hN hT
  subst e1
  have hC : CF X cX10_worked RX10 WALL := hC
  have S_35 : Sd X 35 [(0, 20), (1, 0)] [0] (B_X10_worked_35 Q) := by
    unfold B_X10_worked_35
    exact sd_ireturn hC hT dX10_worked_35
  refine (?_ : Sd X 0 [(0, 20), (1, 0)] [] (E_X10_worked Q))
  unfold E_X10_worked
  refine sd_aload_n hC 20 dX10_worked_0 rfl (by decide) (by decide) (?_ : Sd X 1 [(0, 20), (1, 0)] [20] _)
  refine sd_iconst hC dX10_worked_1 ⟨by decide, by decide⟩ (?_ : Sd X 2 [(0, 20), (1, 0)] [0, 20] _)
  refine sd_put hC (ci := 10) (j := 0) (C := RX10) (T := TX10) (N := 45) tyX10 tyX10_ok nmX10 rfl rfl (by decide) in_X10 rfl rfl wl_5_164 dX10_worked_2 (?_ : Sd X 5 [(0, 20), (1, 0)] [] _)
  refine sd_aload_n hC 20 dX10_worked_5 rfl (by decide) (by decide) (?_ : Sd X 6 [(0, 20), (1, 0)] [20] _)
  refine sd_iload_n hC dX10_worked_6 rfl (by decide) (?_ : Sd X 7 [(0, 20), (1, 0)] [0, 20] _)
  refine sd_inv0 (τ := []) (τr := [0]) (ci := 10) (q := (RX10, TX10, 45)) hC WG (M_X10_isGate _) rfl rfl rfl rfl  rfl rfl wl_7_187 wl_7_189 wp_106 wl_1_10 wl_7_190 hd_X10_isGate (by rw [e3]; decide) (by decide) dX10_worked_7 (?_ : Sd X 10 [(0, 20), (1, 0)] [0] _)
  refine sd_if_eq (tgt := 30) hC dX10_worked_10 rfl (?_ : Sd X 30 [(0, 20), (1, 0)] [] _) (?_ : Sd X 13 [(0, 20), (1, 0)] [] _)
  · refine sd_aload_n hC 20 dX10_worked_30 rfl (by decide) (by decide) (?_ : Sd X 31 [(0, 20), (1, 0)] [20] _)
    refine sd_iconst hC dX10_worked_31 ⟨by decide, by decide⟩ (?_ : Sd X 32 [(0, 20), (1, 0)] [0, 20] _)
    refine sd_inv0 (τ := []) (τr := [0]) (ci := 10) (q := (RX10, TX10, 45)) hC WG (M_X10_refused _) rfl rfl rfl rfl  rfl rfl wl_6_72 wl_6_74 wp_63 wl_1_10 wl_6_75 hd_X10_refused (by rw [e3]; decide) (by decide) dX10_worked_32 (?_ : Sd X 35 [(0, 20), (1, 0)] [0] _)
    exact Sd.weak (by decide) (S_35)
  · refine sd_aload_n hC 20 dX10_worked_13 rfl (by decide) (by decide) (?_ : Sd X 14 [(0, 20), (1, 0)] [20] _)
    refine sd_aload_n hC 20 dX10_worked_14 rfl (by decide) (by decide) (?_ : Sd X 15 [(0, 20), (1, 0)] [20, 20] _)
    refine sd_get hC (ci := 10) (j := 32) (C := RX10) (T := TX10) (N := 45) rfl rfl (by decide) in_X10 wl_5_196 dX10_worked_15 (?_ : Sd X 18 [(0, 20), (1, 0)] [100, 20] _)
    refine sd_sipush hC dX10_worked_18 (by decide) (?_ : Sd X 21 [(0, 20), (1, 0)] [0, 100, 20] _)
    refine sd_iload_n hC dX10_worked_21 rfl (by decide) (?_ : Sd X 22 [(0, 20), (1, 0)] [0, 0, 100, 20] _)
    refine sd_iadd hC dX10_worked_22 (?_ : Sd X 23 [(0, 20), (1, 0)] [0, 100, 20] _)
    refine sd_iaload hC dX10_worked_23 (?_ : Sd X 24 [(0, 20), (1, 0)] [0, 20] _)
    refine sd_inv0 (τ := []) (τr := [0]) (ci := 10) (q := (RX10, TX10, 45)) hC WG (M_X10_good _) rfl rfl rfl rfl  rfl rfl wl_7_171 wl_7_173 wp_105 wl_1_10 wl_7_174 hd_X10_good (by rw [e3]; decide) (by decide) dX10_worked_24 (?_ : Sd X 27 [(0, 20), (1, 0)] [0] _)
    refine sd_goto (tgt := 35) hC dX10_worked_27 rfl (?_ : Sd X 35 [(0, 20), (1, 0)] [0] _)
    exact Sd.weak (by decide) (S_35)
theorem wl_1_101 : Cond.fieldLink RX1 17 "NarrowRings$City" "gate" "[[I" ∈ WALL := tb1 (List.mem_of_getElem? (i := 101) rfl) rfl
theorem wl_1_99 : Cond.fieldLink RX1 11 "NarrowRings$City" "width" "[I" ∈ WALL := tb1 (List.mem_of_getElem? (i := 99) rfl) rfl
theorem wl_1_49 : Cond.fieldLink RX1 64 "NarrowRings$Thing" "wide" "[I" ∈ WALL := tb1 (List.mem_of_getElem? (i := 49) rfl) rfl
theorem wl_1_47 : Cond.fieldLink RX1 78 "NarrowRings$Thing" "length" "[I" ∈ WALL := tb1 (List.mem_of_getElem? (i := 47) rfl) rfl
theorem wl_1_51 : Cond.fieldLink RX1 81 "NarrowRings$Thing" "high" "[I" ∈ WALL := tb1 (List.mem_of_getElem? (i := 51) rfl) rfl
theorem hd_X1_meets : yX1_meets.cls ≠ "java/lang/invoke/MethodHandle" ∧ yX1_meets.cls ≠ "java/lang/invoke/VarHandle" ∧ (parseMethodDescriptor yX1_meets.desc).map (fun d => d.parameters.length) = some 3 := by decide +kernel
set_option maxRecDepth 100000 in
set_option maxHeartbeats 4000000 in
theorem M_X1_meets (l : Launch) : Mt l yX1_meets (Cond.code yX1_meets cX1_meets 9 (some .int) :: WALL) { frames := 0, cells := 0, slots := 0, locals := 0 } [11, 16, 0, 0] (some 0) T_X1_meets := by
  refine Mt.mk (B := E_X1_meets) (by decide +kernel) (by decide) (fun _ _ _ hh => hh) ?_
  intro X Q e1 e2 e3 hC hN hT
  subst e1
  have hC : CF X cX1_meets RX1 WALL := hC
  have S_127 : Sd X 127 [(0, 11), (1, 16), (2, 0), (3, 0), (4, 100), (5, 0), (6, 0), (7, 0), (8, 0)] [0] (B_X1_meets_127 Q) := by
    unfold B_X1_meets_127
    exact sd_ireturn hC hT dX1_meets_127
  refine (?_ : Sd X 0 [(0, 11), (1, 16), (2, 0), (3, 0)] [] (E_X1_meets Q))
  unfold E_X1_meets
  refine sd_aload_n hC 11 dX1_meets_0 rfl (by decide) (by decide) (?_ : Sd X 1 [(0, 11), (1, 16), (2, 0), (3, 0)] [11] _)
  refine sd_get hC (ci := 1) (j := 6) (C := RX1) (T := TX1) (N := 12) rfl rfl (by decide) in_X1 wl_1_101 dX1_meets_1 (?_ : Sd X 4 [(0, 11), (1, 16), (2, 0), (3, 0)] [200] _)
  refine sd_iload_n hC dX1_meets_4 rfl (by decide) (?_ : Sd X 5 [(0, 11), (1, 16), (2, 0), (3, 0)] [0, 200] _)
  refine sd_aaload (e := 100) hC (List.mem_of_getElem? (i := 7) rfl) rfl rfl dX1_meets_5 (?_ : Sd X 6 [(0, 11), (1, 16), (2, 0), (3, 0)] [100] _)
  refine sd_astore (Γ' := [(0, 11), (1, 16), (2, 0), (3, 0), (4, 100)]) hC dX1_meets_6 (by decide) (by rw [e2]; decide) (by decide) (?_ : Sd X 8 [(0, 11), (1, 16), (2, 0), (3, 0), (4, 100)] [] _)
  refine sd_aload_n hC 11 dX1_meets_8 rfl (by decide) (by decide) (?_ : Sd X 9 [(0, 11), (1, 16), (2, 0), (3, 0), (4, 100)] [11] _)
  refine sd_get hC (ci := 1) (j := 5) (C := RX1) (T := TX1) (N := 12) rfl rfl (by decide) in_X1 wl_1_99 dX1_meets_9 (?_ : Sd X 12 [(0, 11), (1, 16), (2, 0), (3, 0), (4, 100)] [100] _)
  refine sd_aload hC 100 dX1_meets_12 (by decide) (by decide) (?_ : Sd X 14 [(0, 11), (1, 16), (2, 0), (3, 0), (4, 100)] [100, 100] _)
  refine sd_iconst hC dX1_meets_14 ⟨by decide, by decide⟩ (?_ : Sd X 15 [(0, 11), (1, 16), (2, 0), (3, 0), (4, 100)] [0, 100, 100] _)
  refine sd_iaload hC dX1_meets_15 (?_ : Sd X 16 [(0, 11), (1, 16), (2, 0), (3, 0), (4, 100)] [0, 100] _)
  refine sd_iaload hC dX1_meets_16 (?_ : Sd X 17 [(0, 11), (1, 16), (2, 0), (3, 0), (4, 100)] [0] _)
  refine sd_istore (Γ' := [(0, 11), (1, 16), (2, 0), (3, 0), (4, 100), (5, 0)]) hC dX1_meets_17 (by rw [e2]; decide) (by decide) (?_ : Sd X 19 [(0, 11), (1, 16), (2, 0), (3, 0), (4, 100), (5, 0)] [] _)
  refine sd_aload_n hC 11 dX1_meets_19 rfl (by decide) (by decide) (?_ : Sd X 20 [(0, 11), (1, 16), (2, 0), (3, 0), (4, 100), (5, 0)] [11] _)
  refine sd_get hC (ci := 1) (j := 5) (C := RX1) (T := TX1) (N := 12) rfl rfl (by decide) in_X1 wl_1_99 dX1_meets_20 (?_ : Sd X 23 [(0, 11), (1, 16), (2, 0), (3, 0), (4, 100), (5, 0)] [100] _)
  refine sd_aload hC 100 dX1_meets_23 (by decide) (by decide) (?_ : Sd X 25 [(0, 11), (1, 16), (2, 0), (3, 0), (4, 100), (5, 0)] [100, 100] _)
  refine sd_iconst hC dX1_meets_25 ⟨by decide, by decide⟩ (?_ : Sd X 26 [(0, 11), (1, 16), (2, 0), (3, 0), (4, 100), (5, 0)] [0, 100, 100] _)
  refine sd_iaload hC dX1_meets_26 (?_ : Sd X 27 [(0, 11), (1, 16), (2, 0), (3, 0), (4, 100), (5, 0)] [0, 100] _)
  refine sd_iconst hC dX1_meets_27 ⟨by decide, by decide⟩ (?_ : Sd X 28 [(0, 11), (1, 16), (2, 0), (3, 0), (4, 100), (5, 0)] [0, 0, 100] _)
  refine sd_iadd hC dX1_meets_28 (?_ : Sd X 29 [(0, 11), (1, 16), (2, 0), (3, 0), (4, 100), (5, 0)] [0, 100] _)
  refine sd_iaload hC dX1_meets_29 (?_ : Sd X 30 [(0, 11), (1, 16), (2, 0), (3, 0), (4, 100), (5, 0)] [0] _)
  refine sd_istore (Γ' := [(0, 11), (1, 16), (2, 0), (3, 0), (4, 100), (5, 0), (6, 0)]) hC dX1_meets_30 (by rw [e2]; decide) (by decide) (?_ : Sd X 32 [(0, 11), (1, 16), (2, 0), (3, 0), (4, 100), (5, 0), (6, 0)] [] _)
  refine sd_aload_n hC 16 dX1_meets_32 rfl (by decide) (by decide) (?_ : Sd X 33 [(0, 11), (1, 16), (2, 0), (3, 0), (4, 100), (5, 0), (6, 0)] [16] _)
  refine sd_get hC (ci := 6) (j := 1) (C := RX6) (T := TX6) (N := 7) rfl rfl (by decide) in_X6 wl_1_49 dX1_meets_33 (?_ : Sd X 36 [(0, 11), (1, 16), (2, 0), (3, 0), (4, 100), (5, 0), (6, 0)] [100] _)
  refine sd_iload_n hC dX1_meets_36 rfl (by decide) (?_ : Sd X 37 [(0, 11), (1, 16), (2, 0), (3, 0), (4, 100), (5, 0), (6, 0)] [0, 100] _)
  refine sd_iaload hC dX1_meets_37 (?_ : Sd X 38 [(0, 11), (1, 16), (2, 0), (3, 0), (4, 100), (5, 0), (6, 0)] [0] _)
  refine sd_istore (Γ' := [(0, 11), (1, 16), (2, 0), (3, 0), (4, 100), (5, 0), (6, 0), (7, 0)]) hC dX1_meets_38 (by rw [e2]; decide) (by decide) (?_ : Sd X 40 [(0, 11), (1, 16), (2, 0), (3, 0), (4, 100), (5, 0), (6, 0), (7, 0)] [] _)
  refine sd_aload_n hC 16 dX1_meets_40 rfl (by decide) (by decide) (?_ : Sd X 41 [(0, 11), (1, 16), (2, 0), (3, 0), (4, 100), (5, 0), (6, 0), (7, 0)] [16] _)
  refine sd_get hC (ci := 6) (j := 0) (C := RX6) (T := TX6) (N := 7) rfl rfl (by decide) in_X6 wl_1_47 dX1_meets_41 (?_ : Sd X 44 [(0, 11), (1, 16), (2, 0), (3, 0), (4, 100), (5, 0), (6, 0), (7, 0)] [100] _)
  refine sd_iload_n hC dX1_meets_44 rfl (by decide) (?_ : Sd X 45 [(0, 11), (1, 16), (2, 0), (3, 0), (4, 100), (5, 0), (6, 0), (7, 0)] [0, 100] _)
  refine sd_iaload hC dX1_meets_45 (?_ : Sd X 46 [(0, 11), (1, 16), (2, 0), (3, 0), (4, 100), (5, 0), (6, 0), (7, 0)] [0] _)
  refine sd_iload hC dX1_meets_46 (by decide) (?_ : Sd X 48 [(0, 11), (1, 16), (2, 0), (3, 0), (4, 100), (5, 0), (6, 0), (7, 0)] [0, 0] _)
  refine sd_iadd hC dX1_meets_48 (?_ : Sd X 49 [(0, 11), (1, 16), (2, 0), (3, 0), (4, 100), (5, 0), (6, 0), (7, 0)] [0] _)
  refine sd_istore (Γ' := [(0, 11), (1, 16), (2, 0), (3, 0), (4, 100), (5, 0), (6, 0), (7, 0), (8, 0)]) hC dX1_meets_49 (by rw [e2]; decide) (by decide) (?_ : Sd X 51 [(0, 11), (1, 16), (2, 0), (3, 0), (4, 100), (5, 0), (6, 0), (7, 0), (8, 0)] [] _)
  refine sd_iload hC dX1_meets_51 (by decide) (?_ : Sd X 53 [(0, 11), (1, 16), (2, 0), (3, 0), (4, 100), (5, 0), (6, 0), (7, 0), (8, 0)] [0] _)
  refine sd_iload hC dX1_meets_53 (by decide) (?_ : Sd X 55 [(0, 11), (1, 16), (2, 0), (3, 0), (4, 100), (5, 0), (6, 0), (7, 0), (8, 0)] [0, 0] _)
  refine sd_icmp_le (tgt := 60) hC dX1_meets_55 rfl (?_ : Sd X 60 [(0, 11), (1, 16), (2, 0), (3, 0), (4, 100), (5, 0), (6, 0), (7, 0), (8, 0)] [] _) (?_ : Sd X 58 [(0, 11), (1, 16), (2, 0), (3, 0), (4, 100), (5, 0), (6, 0), (7, 0), (8, 0)] [] _)
  · refine sd_iload hC dX1_meets_60 (by decide) (?_ : Sd X 62 [(0, 11), (1, 16), (2, 0), (3, 0), (4, 100), (5, 0), (6, 0), (7, 0), (8, 0)] [0] _)
    refine sd_aload hC 100 dX1_meets_62 (by decide) (by decide) (?_ : Sd X 64 [(0, 11), (1, 16), (2, 0), (3, 0), (4, 100), (5, 0), (6, 0), (7, 0), (8, 0)] [100, 0] _)
    refine sd_iconst hC dX1_meets_64 ⟨by decide, by decide⟩ (?_ : Sd X 65 [(0, 11), (1, 16), (2, 0), (3, 0), (4, 100), (5, 0), (6, 0), (7, 0), (8, 0)] [0, 100, 0] _)
    refine sd_iaload hC dX1_meets_65 (?_ : Sd X 66 [(0, 11), (1, 16), (2, 0), (3, 0), (4, 100), (5, 0), (6, 0), (7, 0), (8, 0)] [0, 0] _)
    refine sd_icmp_le (tgt := 71) hC dX1_meets_66 rfl (?_ : Sd X 71 [(0, 11), (1, 16), (2, 0), (3, 0), (4, 100), (5, 0), (6, 0), (7, 0), (8, 0)] [] _) (?_ : Sd X 69 [(0, 11), (1, 16), (2, 0), (3, 0), (4, 100), (5, 0), (6, 0), (7, 0), (8, 0)] [] _)
    · refine sd_aload_n hC 16 dX1_meets_71 rfl (by decide) (by decide) (?_ : Sd X 72 [(0, 11), (1, 16), (2, 0), (3, 0), (4, 100), (5, 0), (6, 0), (7, 0), (8, 0)] [16] _)
      refine sd_get hC (ci := 6) (j := 2) (C := RX6) (T := TX6) (N := 7) rfl rfl (by decide) in_X6 wl_1_51 dX1_meets_72 (?_ : Sd X 75 [(0, 11), (1, 16), (2, 0), (3, 0), (4, 100), (5, 0), (6, 0), (7, 0), (8, 0)] [100] _)
      refine sd_iload_n hC dX1_meets_75 rfl (by decide) (?_ : Sd X 76 [(0, 11), (1, 16), (2, 0), (3, 0), (4, 100), (5, 0), (6, 0), (7, 0), (8, 0)] [0, 100] _)
      refine sd_iaload hC dX1_meets_76 (?_ : Sd X 77 [(0, 11), (1, 16), (2, 0), (3, 0), (4, 100), (5, 0), (6, 0), (7, 0), (8, 0)] [0] _)
      refine sd_aload hC 100 dX1_meets_77 (by decide) (by decide) (?_ : Sd X 79 [(0, 11), (1, 16), (2, 0), (3, 0), (4, 100), (5, 0), (6, 0), (7, 0), (8, 0)] [100, 0] _)
      refine sd_iconst hC dX1_meets_79 ⟨by decide, by decide⟩ (?_ : Sd X 80 [(0, 11), (1, 16), (2, 0), (3, 0), (4, 100), (5, 0), (6, 0), (7, 0), (8, 0)] [0, 100, 0] _)
      refine sd_iaload hC dX1_meets_80 (?_ : Sd X 81 [(0, 11), (1, 16), (2, 0), (3, 0), (4, 100), (5, 0), (6, 0), (7, 0), (8, 0)] [0, 0] _)
      refine sd_icmp_le (tgt := 86) hC dX1_meets_81 rfl (?_ : Sd X 86 [(0, 11), (1, 16), (2, 0), (3, 0), (4, 100), (5, 0), (6, 0), (7, 0), (8, 0)] [] _) (?_ : Sd X 84 [(0, 11), (1, 16), (2, 0), (3, 0), (4, 100), (5, 0), (6, 0), (7, 0), (8, 0)] [] _)
      · refine sd_iload hC dX1_meets_86 (by decide) (?_ : Sd X 88 [(0, 11), (1, 16), (2, 0), (3, 0), (4, 100), (5, 0), (6, 0), (7, 0), (8, 0)] [0] _)
        refine sd_iload hC dX1_meets_88 (by decide) (?_ : Sd X 90 [(0, 11), (1, 16), (2, 0), (3, 0), (4, 100), (5, 0), (6, 0), (7, 0), (8, 0)] [0, 0] _)
        refine sd_icmp_le (tgt := 95) hC dX1_meets_90 rfl (?_ : Sd X 95 [(0, 11), (1, 16), (2, 0), (3, 0), (4, 100), (5, 0), (6, 0), (7, 0), (8, 0)] [] _) (?_ : Sd X 93 [(0, 11), (1, 16), (2, 0), (3, 0), (4, 100), (5, 0), (6, 0), (7, 0), (8, 0)] [] _)
        · refine sd_iload hC dX1_meets_95 (by decide) (?_ : Sd X 97 [(0, 11), (1, 16), (2, 0), (3, 0), (4, 100), (5, 0), (6, 0), (7, 0), (8, 0)] [0] _)
          refine sd_iload hC dX1_meets_97 (by decide) (?_ : Sd X 99 [(0, 11), (1, 16), (2, 0), (3, 0), (4, 100), (5, 0), (6, 0), (7, 0), (8, 0)] [0, 0] _)
          refine sd_aload hC 100 dX1_meets_99 (by decide) (by decide) (?_ : Sd X 101 [(0, 11), (1, 16), (2, 0), (3, 0), (4, 100), (5, 0), (6, 0), (7, 0), (8, 0)] [100, 0, 0] _)
          refine sd_iconst hC dX1_meets_101 ⟨by decide, by decide⟩ (?_ : Sd X 102 [(0, 11), (1, 16), (2, 0), (3, 0), (4, 100), (5, 0), (6, 0), (7, 0), (8, 0)] [0, 100, 0, 0] _)
          refine sd_iaload hC dX1_meets_102 (?_ : Sd X 103 [(0, 11), (1, 16), (2, 0), (3, 0), (4, 100), (5, 0), (6, 0), (7, 0), (8, 0)] [0, 0, 0] _)
          refine sd_iadd hC dX1_meets_103 (?_ : Sd X 104 [(0, 11), (1, 16), (2, 0), (3, 0), (4, 100), (5, 0), (6, 0), (7, 0), (8, 0)] [0, 0] _)
          refine sd_icmp_le (tgt := 109) hC dX1_meets_104 rfl (?_ : Sd X 109 [(0, 11), (1, 16), (2, 0), (3, 0), (4, 100), (5, 0), (6, 0), (7, 0), (8, 0)] [] _) (?_ : Sd X 107 [(0, 11), (1, 16), (2, 0), (3, 0), (4, 100), (5, 0), (6, 0), (7, 0), (8, 0)] [] _)
          · refine sd_iload hC dX1_meets_109 (by decide) (?_ : Sd X 111 [(0, 11), (1, 16), (2, 0), (3, 0), (4, 100), (5, 0), (6, 0), (7, 0), (8, 0)] [0] _)
            refine sd_iload hC dX1_meets_111 (by decide) (?_ : Sd X 113 [(0, 11), (1, 16), (2, 0), (3, 0), (4, 100), (5, 0), (6, 0), (7, 0), (8, 0)] [0, 0] _)
            refine sd_aload hC 100 dX1_meets_113 (by decide) (by decide) (?_ : Sd X 115 [(0, 11), (1, 16), (2, 0), (3, 0), (4, 100), (5, 0), (6, 0), (7, 0), (8, 0)] [100, 0, 0] _)
            refine sd_iconst hC dX1_meets_115 ⟨by decide, by decide⟩ (?_ : Sd X 116 [(0, 11), (1, 16), (2, 0), (3, 0), (4, 100), (5, 0), (6, 0), (7, 0), (8, 0)] [0, 100, 0, 0] _)
            refine sd_iaload hC dX1_meets_116 (?_ : Sd X 117 [(0, 11), (1, 16), (2, 0), (3, 0), (4, 100), (5, 0), (6, 0), (7, 0), (8, 0)] [0, 0, 0] _)
            refine sd_iadd hC dX1_meets_117 (?_ : Sd X 118 [(0, 11), (1, 16), (2, 0), (3, 0), (4, 100), (5, 0), (6, 0), (7, 0), (8, 0)] [0, 0] _)
            refine sd_icmp_le (tgt := 126) hC dX1_meets_118 rfl (?_ : Sd X 126 [(0, 11), (1, 16), (2, 0), (3, 0), (4, 100), (5, 0), (6, 0), (7, 0), (8, 0)] [] _) (?_ : Sd X 121 [(0, 11), (1, 16), (2, 0), (3, 0), (4, 100), (5, 0), (6, 0), (7, 0), (8, 0)] [] _)
            · refine sd_iconst hC dX1_meets_126 ⟨by decide, by decide⟩ (?_ : Sd X 127 [(0, 11), (1, 16), (2, 0), (3, 0), (4, 100), (5, 0), (6, 0), (7, 0), (8, 0)] [0] _)
              exact Sd.weak (by decide) (S_127)
            · refine sd_bipush hC dX1_meets_121 (by decide) (?_ : Sd X 123 [(0, 11), (1, 16), (2, 0), (3, 0), (4, 100), (5, 0), (6, 0), (7, 0), (8, 0)] [0] _)
              refine sd_goto (tgt := 127) hC dX1_meets_123 rfl (?_ : Sd X 127 [(0, 11), (1, 16), (2, 0), (3, 0), (4, 100), (5, 0), (6, 0), (7, 0), (8, 0)] [0] _)
              exact Sd.weak (by decide) (S_127)
          · refine sd_iconst hC dX1_meets_107 ⟨by decide, by decide⟩ (?_ : Sd X 108 [(0, 11), (1, 16), (2, 0), (3, 0), (4, 100), (5, 0), (6, 0), (7, 0), (8, 0)] [0] _)
            exact sd_ireturn hC hT dX1_meets_108
        · refine sd_iconst hC dX1_meets_93 ⟨by decide, by decide⟩ (?_ : Sd X 94 [(0, 11), (1, 16), (2, 0), (3, 0), (4, 100), (5, 0), (6, 0), (7, 0), (8, 0)] [0] _)
          exact sd_ireturn hC hT dX1_meets_94
      · refine sd_iconst hC dX1_meets_84 ⟨by decide, by decide⟩ (?_ : Sd X 85 [(0, 11), (1, 16), (2, 0), (3, 0), (4, 100), (5, 0), (6, 0), (7, 0), (8, 0)] [0] _)
        exact sd_ireturn hC hT dX1_meets_85
    · refine sd_iconst hC dX1_meets_69 ⟨by decide, by decide⟩ (?_ : Sd X 70 [(0, 11), (1, 16), (2, 0), (3, 0), (4, 100), (5, 0), (6, 0), (7, 0), (8, 0)] [0] _)
      exact sd_ireturn hC hT dX1_meets_70
  · refine sd_iconst hC dX1_meets_58 ⟨by decide, by decide⟩ (?_ : Sd X 59 [(0, 11), (1, 16), (2, 0), (3, 0), (4, 100), (5, 0), (6, 0), (7, 0), (8, 0)] [0] _)
    exact sd_ireturn hC hT dX1_meets_59
theorem wl_1_59 : Cond.fieldLink RX6 23 "NarrowRings$Thing" "tilts" "Z" ∈ WALL := tb1 (List.mem_of_getElem? (i := 59) rfl) rfl
theorem wl_1_57 : Cond.fieldLink RX6 19 "NarrowRings$Thing" "turns" "Z" ∈ WALL := tb1 (List.mem_of_getElem? (i := 57) rfl) rfl
theorem hd_X6_canLie : yX6_canLie.cls ≠ "java/lang/invoke/MethodHandle" ∧ yX6_canLie.cls ≠ "java/lang/invoke/VarHandle" ∧ (parseMethodDescriptor yX6_canLie.desc).map (fun d => d.parameters.length) = some 1 := by decide +kernel
set_option maxRecDepth 100000 in
set_option maxHeartbeats 4000000 in
theorem M_X6_canLie (l : Launch) : Mt l yX6_canLie (Cond.code yX6_canLie cX6_canLie 2 (some .boolean) :: WALL) { frames := 0, cells := 0, slots := 0, locals := 0 } [16, 0] (some 0) T_X6_canLie := by
  refine Mt.mk (B := E_X6_canLie) (by decide +kernel) (by decide) (fun _ _ _ hh => hh) ?_
  intro X Q e1 e2 e3 hC hN hT
  subst e1
  have hC : CF X cX6_canLie RX6 WALL := hC
  have S_33 : Sd X 33 [(0, 16), (1, 0)] [0] (B_X6_canLie_33 Q) := by
    unfold B_X6_canLie_33
    exact sd_zreturn hC hT dX6_canLie_33
  have S_28 : Sd X 28 [(0, 16), (1, 0)] [] (B_X6_canLie_28 Q) := by
    unfold B_X6_canLie_28
    refine sd_iconst hC dX6_canLie_28 ⟨by decide, by decide⟩ (?_ : Sd X 29 [(0, 16), (1, 0)] [0] _)
    refine sd_goto (tgt := 33) hC dX6_canLie_29 rfl (?_ : Sd X 33 [(0, 16), (1, 0)] [0] _)
    exact Sd.weak (by decide) (S_33)
  have S_32 : Sd X 32 [(0, 16), (1, 0)] [] (B_X6_canLie_32 Q) := by
    unfold B_X6_canLie_32
    refine sd_iconst hC dX6_canLie_32 ⟨by decide, by decide⟩ (?_ : Sd X 33 [(0, 16), (1, 0)] [0] _)
    exact Sd.weak (by decide) (S_33)
  have S_16 : Sd X 16 [(0, 16), (1, 0)] [] (B_X6_canLie_16 Q) := by
    unfold B_X6_canLie_16
    refine sd_iload_n hC dX6_canLie_16 rfl (by decide) (?_ : Sd X 17 [(0, 16), (1, 0)] [0] _)
    refine sd_iconst hC dX6_canLie_17 ⟨by decide, by decide⟩ (?_ : Sd X 18 [(0, 16), (1, 0)] [0, 0] _)
    refine sd_icmp_ne (tgt := 32) hC dX6_canLie_18 rfl (?_ : Sd X 32 [(0, 16), (1, 0)] [] _) (?_ : Sd X 21 [(0, 16), (1, 0)] [] _)
    · exact Sd.weak (by decide) (S_32)
    · refine sd_aload_n hC 16 dX6_canLie_21 rfl (by decide) (by decide) (?_ : Sd X 22 [(0, 16), (1, 0)] [16] _)
      refine sd_get hC (ci := 6) (j := 6) (C := RX6) (T := TX6) (N := 7) rfl rfl (by decide) in_X6 wl_1_59 dX6_canLie_22 (?_ : Sd X 25 [(0, 16), (1, 0)] [0] _)
      refine sd_if_eq (tgt := 32) hC dX6_canLie_25 rfl (?_ : Sd X 32 [(0, 16), (1, 0)] [] _) (?_ : Sd X 28 [(0, 16), (1, 0)] [] _)
      · exact Sd.weak (by decide) (S_32)
      · exact Sd.weak (by decide) (S_28)
  refine (?_ : Sd X 0 [(0, 16), (1, 0)] [] (E_X6_canLie Q))
  unfold E_X6_canLie
  refine sd_iload_n hC dX6_canLie_0 rfl (by decide) (?_ : Sd X 1 [(0, 16), (1, 0)] [0] _)
  refine sd_if_eq (tgt := 28) hC dX6_canLie_1 rfl (?_ : Sd X 28 [(0, 16), (1, 0)] [] _) (?_ : Sd X 4 [(0, 16), (1, 0)] [] _)
  · exact Sd.weak (by decide) (S_28)
  · refine sd_iload_n hC dX6_canLie_4 rfl (by decide) (?_ : Sd X 5 [(0, 16), (1, 0)] [0] _)
    refine sd_iconst hC dX6_canLie_5 ⟨by decide, by decide⟩ (?_ : Sd X 6 [(0, 16), (1, 0)] [0, 0] _)
    refine sd_icmp_ne (tgt := 16) hC dX6_canLie_6 rfl (?_ : Sd X 16 [(0, 16), (1, 0)] [] _) (?_ : Sd X 9 [(0, 16), (1, 0)] [] _)
    · exact Sd.weak (by decide) (S_16)
    · refine sd_aload_n hC 16 dX6_canLie_9 rfl (by decide) (by decide) (?_ : Sd X 10 [(0, 16), (1, 0)] [16] _)
      refine sd_get hC (ci := 6) (j := 5) (C := RX6) (T := TX6) (N := 7) rfl rfl (by decide) in_X6 wl_1_57 dX6_canLie_10 (?_ : Sd X 13 [(0, 16), (1, 0)] [0] _)
      refine sd_if_ne (tgt := 28) hC dX6_canLie_13 rfl (?_ : Sd X 28 [(0, 16), (1, 0)] [] _) (?_ : Sd X 16 [(0, 16), (1, 0)] [] _)
      · exact Sd.weak (by decide) (S_28)
      · exact Sd.weak (by decide) (S_16)
theorem wl_3_169 : Cond.methodLink RX1 84 yX1_meets ∈ WALL := tb3 (List.mem_of_getElem? (i := 169) rfl) rfl
theorem wl_3_170 : Cond.instanceMethod yX1_meets ∈ WALL := tb3 (List.mem_of_getElem? (i := 170) rfl) rfl
theorem wl_3_171 : Cond.selects RX1 yX1_meets yX1_meets ∈ WALL := tb3 (List.mem_of_getElem? (i := 171) rfl) rfl
theorem wl_1_2 : Cond.initialized RX1 ∈ WALL := tb1 (List.mem_of_getElem? (i := 2) rfl) rfl
theorem wl_3_172 : Cond.code yX1_meets cX1_meets 9 (some .int) ∈ WALL := tb3 (List.mem_of_getElem? (i := 172) rfl) rfl
theorem wl_3_173 : Cond.methodLink RX1 88 yX6_canLie ∈ WALL := tb3 (List.mem_of_getElem? (i := 173) rfl) rfl
theorem wl_3_174 : Cond.instanceMethod yX6_canLie ∈ WALL := tb3 (List.mem_of_getElem? (i := 174) rfl) rfl
theorem wl_3_175 : Cond.selects RX6 yX6_canLie yX6_canLie ∈ WALL := tb3 (List.mem_of_getElem? (i := 175) rfl) rfl
theorem wl_1_3 : Cond.initialized RX6 ∈ WALL := tb1 (List.mem_of_getElem? (i := 3) rfl) rfl
theorem wl_3_176 : Cond.code yX6_canLie cX6_canLie 2 (some .boolean) ∈ WALL := tb3 (List.mem_of_getElem? (i := 176) rfl) rfl
theorem wl_3_177 : Cond.methodLink RX1 92 yJ9_min_7cf53 ∈ WALL := tb3 (List.mem_of_getElem? (i := 177) rfl) rfl
theorem wl_3_140 : Cond.static yJ9_min_7cf53 ∈ WALL := tb3 (List.mem_of_getElem? (i := 140) rfl) rfl
theorem wl_1_16 : Cond.initialized RJ9 ∈ WALL := tb1 (List.mem_of_getElem? (i := 16) rfl) rfl
theorem wl_3_141 : Cond.code yJ9_min_7cf53 cJ9_min_7cf53 2 (some .int) ∈ WALL := tb3 (List.mem_of_getElem? (i := 141) rfl) rfl
theorem hd_X1_barOf : yX1_barOf.cls ≠ "java/lang/invoke/MethodHandle" ∧ yX1_barOf.cls ≠ "java/lang/invoke/VarHandle" ∧ (parseMethodDescriptor yX1_barOf.desc).map (fun d => d.parameters.length) = some 2 := by decide +kernel
set_option maxRecDepth 100000 in
set_option maxHeartbeats 4000000 in
theorem M_X1_barOf (l : Launch) : Mt l yX1_barOf (Cond.code yX1_barOf cX1_barOf 5 (some .int) :: WALL) { frames := 1, cells := 0, slots := 0, locals := 28 } [11, 16, 0] (some 0) T_X1_barOf := by
  refine Mt.mk (B := E_X1_barOf) (by decide +kernel) (by decide) (fun _ _ _ hh => hh) ?_
  intro X Q e1 e2 e3 hC hN hT
  subst e1
  have hC : CF X cX1_barOf RX1 WALL := hC
  have S_39 : ∀ (k11 : tK), Sd X 11 [(0, 11), (1, 16), (2, 0), (3, 0), (4, 0)] [] k11 → Sd X 39 [(0, 11), (1, 16), (2, 0), (3, 0), (4, 0)] [] (B_X1_barOf_39 Q k11) := by
    intro k11 h11
    unfold B_X1_barOf_39
    refine sd_iinc (Γ' := [(0, 11), (1, 16), (2, 0), (3, 0), (4, 0)]) hC dX1_barOf_39 (by decide) (by rw [e2]; decide) (by decide) (?_ : Sd X 42 [(0, 11), (1, 16), (2, 0), (3, 0), (4, 0)] [] _)
    refine sd_goto (tgt := 11) hC dX1_barOf_42 rfl (?_ : Sd X 11 [(0, 11), (1, 16), (2, 0), (3, 0), (4, 0)] [] _)
    exact Sd.weak (by decide) h11
  have S_11 : Sd X 11 [(0, 11), (1, 16), (2, 0), (3, 0), (4, 0)] [] (L_X1_barOf_11 Q) := by
    unfold L_X1_barOf_11
    refine Sd.loop (fun k11 h11 => ?_)
    refine sd_iload hC dX1_barOf_11 (by decide) (?_ : Sd X 13 [(0, 11), (1, 16), (2, 0), (3, 0), (4, 0)] [0] _)
    refine sd_iconst hC dX1_barOf_13 ⟨by decide, by decide⟩ (?_ : Sd X 14 [(0, 11), (1, 16), (2, 0), (3, 0), (4, 0)] [0, 0] _)
    refine sd_icmp_ge (tgt := 45) hC dX1_barOf_14 rfl (?_ : Sd X 45 [(0, 11), (1, 16), (2, 0), (3, 0), (4, 0)] [] _) (?_ : Sd X 17 [(0, 11), (1, 16), (2, 0), (3, 0), (4, 0)] [] _)
    · refine sd_iload_n hC dX1_barOf_45 rfl (by decide) (?_ : Sd X 46 [(0, 11), (1, 16), (2, 0), (3, 0), (4, 0)] [0] _)
      exact sd_ireturn hC hT dX1_barOf_46
    · refine sd_aload_n hC 16 dX1_barOf_17 rfl (by decide) (by decide) (?_ : Sd X 18 [(0, 11), (1, 16), (2, 0), (3, 0), (4, 0)] [16] _)
      refine sd_iload hC dX1_barOf_18 (by decide) (?_ : Sd X 20 [(0, 11), (1, 16), (2, 0), (3, 0), (4, 0)] [0, 16] _)
      refine sd_inv0 (τ := []) (τr := [0]) (ci := 6) (q := (RX6, TX6, 7)) hC WG (M_X6_canLie _) rfl rfl rfl rfl  rfl rfl wl_3_173 wl_3_174 wl_3_175 wl_1_3 wl_3_176 hd_X6_canLie (by rw [e3]; decide) (by decide) dX1_barOf_20 (?_ : Sd X 23 [(0, 11), (1, 16), (2, 0), (3, 0), (4, 0)] [0] _)
      refine sd_if_eq (tgt := 39) hC dX1_barOf_23 rfl (?_ : Sd X 39 [(0, 11), (1, 16), (2, 0), (3, 0), (4, 0)] [] _) (?_ : Sd X 26 [(0, 11), (1, 16), (2, 0), (3, 0), (4, 0)] [] _)
      · exact Sd.weak (by decide) (S_39 k11 h11)
      · refine sd_iload_n hC dX1_barOf_26 rfl (by decide) (?_ : Sd X 27 [(0, 11), (1, 16), (2, 0), (3, 0), (4, 0)] [0] _)
        refine sd_aload_n hC 11 dX1_barOf_27 rfl (by decide) (by decide) (?_ : Sd X 28 [(0, 11), (1, 16), (2, 0), (3, 0), (4, 0)] [11, 0] _)
        refine sd_aload_n hC 16 dX1_barOf_28 rfl (by decide) (by decide) (?_ : Sd X 29 [(0, 11), (1, 16), (2, 0), (3, 0), (4, 0)] [16, 11, 0] _)
        refine sd_iload hC dX1_barOf_29 (by decide) (?_ : Sd X 31 [(0, 11), (1, 16), (2, 0), (3, 0), (4, 0)] [0, 16, 11, 0] _)
        refine sd_iload_n hC dX1_barOf_31 rfl (by decide) (?_ : Sd X 32 [(0, 11), (1, 16), (2, 0), (3, 0), (4, 0)] [0, 0, 16, 11, 0] _)
        refine sd_inv0 (τ := [0]) (τr := [16, 0, 0]) (ci := 1) (q := (RX1, TX1, 12)) hC WG (M_X1_meets _) rfl rfl rfl rfl  rfl rfl wl_3_169 wl_3_170 wl_3_171 wl_1_2 wl_3_172 hd_X1_meets (by rw [e3]; decide) (by decide) dX1_barOf_32 (?_ : Sd X 35 [(0, 11), (1, 16), (2, 0), (3, 0), (4, 0)] [0, 0] _)
        refine sd_imin hC wl_3_177 wl_3_140 wl_1_16 wl_3_141 (by rw [e3]; decide) (by decide) dX1_barOf_35 (?_ : Sd X 38 [(0, 11), (1, 16), (2, 0), (3, 0), (4, 0)] [0] _)
        refine sd_istore_n (Γ' := [(0, 11), (1, 16), (2, 0), (3, 0), (4, 0)]) hC dX1_barOf_38 rfl (by rw [e2]; decide) (by decide) (?_ : Sd X 39 [(0, 11), (1, 16), (2, 0), (3, 0), (4, 0)] [] _)
        exact Sd.weak (by decide) (S_39 k11 h11)
  refine (?_ : Sd X 0 [(0, 11), (1, 16), (2, 0)] [] (E_X1_barOf Q))
  unfold E_X1_barOf
  refine sd_aload_n hC 11 dX1_barOf_0 rfl (by decide) (by decide) (?_ : Sd X 1 [(0, 11), (1, 16), (2, 0)] [11] _)
  refine sd_aload_n hC 16 dX1_barOf_1 rfl (by decide) (by decide) (?_ : Sd X 2 [(0, 11), (1, 16), (2, 0)] [16, 11] _)
  refine sd_iconst hC dX1_barOf_2 ⟨by decide, by decide⟩ (?_ : Sd X 3 [(0, 11), (1, 16), (2, 0)] [0, 16, 11] _)
  refine sd_iload_n hC dX1_barOf_3 rfl (by decide) (?_ : Sd X 4 [(0, 11), (1, 16), (2, 0)] [0, 0, 16, 11] _)
  refine sd_inv0 (τ := []) (τr := [16, 0, 0]) (ci := 1) (q := (RX1, TX1, 12)) hC WG (M_X1_meets _) rfl rfl rfl rfl  rfl rfl wl_3_169 wl_3_170 wl_3_171 wl_1_2 wl_3_172 hd_X1_meets (by rw [e3]; decide) (by decide) dX1_barOf_4 (?_ : Sd X 7 [(0, 11), (1, 16), (2, 0)] [0] _)
  refine sd_istore_n (Γ' := [(0, 11), (1, 16), (2, 0), (3, 0)]) hC dX1_barOf_7 rfl (by rw [e2]; decide) (by decide) (?_ : Sd X 8 [(0, 11), (1, 16), (2, 0), (3, 0)] [] _)
  refine sd_iconst hC dX1_barOf_8 ⟨by decide, by decide⟩ (?_ : Sd X 9 [(0, 11), (1, 16), (2, 0), (3, 0)] [0] _)
  refine sd_istore (Γ' := [(0, 11), (1, 16), (2, 0), (3, 0), (4, 0)]) hC dX1_barOf_9 (by rw [e2]; decide) (by decide) (?_ : Sd X 11 [(0, 11), (1, 16), (2, 0), (3, 0), (4, 0)] [] _)
  exact Sd.weak (by decide) (S_11)
theorem wl_1_119 : Cond.fieldLink RX1 35 "NarrowRings$City" "part" "[LNarrowRings$Thing;" ∈ WALL := tb1 (List.mem_of_getElem? (i := 119) rfl) rfl
theorem wl_1_55 : Cond.fieldLink RX1 61 "NarrowRings$Thing" "loads" "I" ∈ WALL := tb1 (List.mem_of_getElem? (i := 55) rfl) rfl
theorem hd_X1_canCut : yX1_canCut.cls ≠ "java/lang/invoke/MethodHandle" ∧ yX1_canCut.cls ≠ "java/lang/invoke/VarHandle" ∧ (parseMethodDescriptor yX1_canCut.desc).map (fun d => d.parameters.length) = some 1 := by decide +kernel
set_option maxRecDepth 100000 in
set_option maxHeartbeats 4000000 in
theorem M_X1_canCut (l : Launch) : Mt l yX1_canCut (Cond.code yX1_canCut cX1_canCut 2 (some .boolean) :: WALL) { frames := 0, cells := 0, slots := 0, locals := 0 } [11, 0] (some 0) T_X1_canCut := by
  refine Mt.mk (B := E_X1_canCut) (by decide +kernel) (by decide) (fun _ _ _ hh => hh) ?_
  intro X Q e1 e2 e3 hC hN hT
  subst e1
  have hC : CF X cX1_canCut RX1 WALL := hC
  have S_18 : Sd X 18 [(0, 11), (1, 0)] [0] (B_X1_canCut_18 Q) := by
    unfold B_X1_canCut_18
    exact sd_zreturn hC hT dX1_canCut_18
  refine (?_ : Sd X 0 [(0, 11), (1, 0)] [] (E_X1_canCut Q))
  unfold E_X1_canCut
  refine sd_aload_n hC 11 dX1_canCut_0 rfl (by decide) (by decide) (?_ : Sd X 1 [(0, 11), (1, 0)] [11] _)
  refine sd_get hC (ci := 1) (j := 11) (C := RX1) (T := TX1) (N := 12) rfl rfl (by decide) in_X1 wl_1_119 dX1_canCut_1 (?_ : Sd X 4 [(0, 11), (1, 0)] [116] _)
  refine sd_iload_n hC dX1_canCut_4 rfl (by decide) (?_ : Sd X 5 [(0, 11), (1, 0)] [0, 116] _)
  refine sd_aaload (e := 16) hC (List.mem_of_getElem? (i := 5) rfl) rfl rfl dX1_canCut_5 (?_ : Sd X 6 [(0, 11), (1, 0)] [16] _)
  refine sd_get hC (ci := 6) (j := 4) (C := RX6) (T := TX6) (N := 7) rfl rfl (by decide) in_X6 wl_1_55 dX1_canCut_6 (?_ : Sd X 9 [(0, 11), (1, 0)] [0] _)
  refine sd_iconst hC dX1_canCut_9 ⟨by decide, by decide⟩ (?_ : Sd X 10 [(0, 11), (1, 0)] [0, 0] _)
  refine sd_icmp_le (tgt := 17) hC dX1_canCut_10 rfl (?_ : Sd X 17 [(0, 11), (1, 0)] [] _) (?_ : Sd X 13 [(0, 11), (1, 0)] [] _)
  · refine sd_iconst hC dX1_canCut_17 ⟨by decide, by decide⟩ (?_ : Sd X 18 [(0, 11), (1, 0)] [0] _)
    exact Sd.weak (by decide) (S_18)
  · refine sd_iconst hC dX1_canCut_13 ⟨by decide, by decide⟩ (?_ : Sd X 14 [(0, 11), (1, 0)] [0] _)
    refine sd_goto (tgt := 18) hC dX1_canCut_14 rfl (?_ : Sd X 18 [(0, 11), (1, 0)] [0] _)
    exact Sd.weak (by decide) (S_18)
theorem wl_1_108 : Cond.fieldLink RX1 20 "NarrowRings$City" "cart" "[[I" ∈ WALL := tb1 (List.mem_of_getElem? (i := 108) rfl) rfl
theorem wl_1_52 : Cond.fieldLink RX1 75 "NarrowRings$Thing" "weight" "I" ∈ WALL := tb1 (List.mem_of_getElem? (i := 52) rfl) rfl
theorem hd_X1_cartBears : yX1_cartBears.cls ≠ "java/lang/invoke/MethodHandle" ∧ yX1_cartBears.cls ≠ "java/lang/invoke/VarHandle" ∧ (parseMethodDescriptor yX1_cartBears.desc).map (fun d => d.parameters.length) = some 3 := by decide +kernel
set_option maxRecDepth 100000 in
set_option maxHeartbeats 4000000 in
theorem M_X1_cartBears (l : Launch) : Mt l yX1_cartBears (Cond.code yX1_cartBears cX1_cartBears 4 (some .boolean) :: WALL) { frames := 0, cells := 0, slots := 0, locals := 0 } [11, 16, 0, 0] (some 0) T_X1_cartBears := by
  refine Mt.mk (B := E_X1_cartBears) (by decide +kernel) (by decide) (fun _ _ _ hh => hh) ?_
  intro X Q e1 e2 e3 hC hN hT
  subst e1
  have hC : CF X cX1_cartBears RX1 WALL := hC
  have S_32 : Sd X 32 [(0, 11), (1, 16), (2, 0), (3, 0)] [0] (B_X1_cartBears_32 Q) := by
    unfold B_X1_cartBears_32
    exact sd_zreturn hC hT dX1_cartBears_32
  have S_31 : Sd X 31 [(0, 11), (1, 16), (2, 0), (3, 0)] [] (B_X1_cartBears_31 Q) := by
    unfold B_X1_cartBears_31
    refine sd_iconst hC dX1_cartBears_31 ⟨by decide, by decide⟩ (?_ : Sd X 32 [(0, 11), (1, 16), (2, 0), (3, 0)] [0] _)
    exact Sd.weak (by decide) (S_32)
  refine (?_ : Sd X 0 [(0, 11), (1, 16), (2, 0), (3, 0)] [] (E_X1_cartBears Q))
  unfold E_X1_cartBears
  refine sd_aload_n hC 11 dX1_cartBears_0 rfl (by decide) (by decide) (?_ : Sd X 1 [(0, 11), (1, 16), (2, 0), (3, 0)] [11] _)
  refine sd_get hC (ci := 1) (j := 7) (C := RX1) (T := TX1) (N := 12) rfl rfl (by decide) in_X1 wl_1_108 dX1_cartBears_1 (?_ : Sd X 4 [(0, 11), (1, 16), (2, 0), (3, 0)] [200] _)
  refine sd_iload_n hC dX1_cartBears_4 rfl (by decide) (?_ : Sd X 5 [(0, 11), (1, 16), (2, 0), (3, 0)] [0, 200] _)
  refine sd_aaload (e := 100) hC (List.mem_of_getElem? (i := 7) rfl) rfl rfl dX1_cartBears_5 (?_ : Sd X 6 [(0, 11), (1, 16), (2, 0), (3, 0)] [100] _)
  refine sd_iconst hC dX1_cartBears_6 ⟨by decide, by decide⟩ (?_ : Sd X 7 [(0, 11), (1, 16), (2, 0), (3, 0)] [0, 100] _)
  refine sd_iaload hC dX1_cartBears_7 (?_ : Sd X 8 [(0, 11), (1, 16), (2, 0), (3, 0)] [0] _)
  refine sd_iload_n hC dX1_cartBears_8 rfl (by decide) (?_ : Sd X 9 [(0, 11), (1, 16), (2, 0), (3, 0)] [0, 0] _)
  refine sd_icmp_ne (tgt := 31) hC dX1_cartBears_9 rfl (?_ : Sd X 31 [(0, 11), (1, 16), (2, 0), (3, 0)] [] _) (?_ : Sd X 12 [(0, 11), (1, 16), (2, 0), (3, 0)] [] _)
  · exact Sd.weak (by decide) (S_31)
  · refine sd_aload_n hC 11 dX1_cartBears_12 rfl (by decide) (by decide) (?_ : Sd X 13 [(0, 11), (1, 16), (2, 0), (3, 0)] [11] _)
    refine sd_get hC (ci := 1) (j := 7) (C := RX1) (T := TX1) (N := 12) rfl rfl (by decide) in_X1 wl_1_108 dX1_cartBears_13 (?_ : Sd X 16 [(0, 11), (1, 16), (2, 0), (3, 0)] [200] _)
    refine sd_iload_n hC dX1_cartBears_16 rfl (by decide) (?_ : Sd X 17 [(0, 11), (1, 16), (2, 0), (3, 0)] [0, 200] _)
    refine sd_aaload (e := 100) hC (List.mem_of_getElem? (i := 7) rfl) rfl rfl dX1_cartBears_17 (?_ : Sd X 18 [(0, 11), (1, 16), (2, 0), (3, 0)] [100] _)
    refine sd_iconst hC dX1_cartBears_18 ⟨by decide, by decide⟩ (?_ : Sd X 19 [(0, 11), (1, 16), (2, 0), (3, 0)] [0, 100] _)
    refine sd_iaload hC dX1_cartBears_19 (?_ : Sd X 20 [(0, 11), (1, 16), (2, 0), (3, 0)] [0] _)
    refine sd_aload_n hC 16 dX1_cartBears_20 rfl (by decide) (by decide) (?_ : Sd X 21 [(0, 11), (1, 16), (2, 0), (3, 0)] [16, 0] _)
    refine sd_get hC (ci := 6) (j := 3) (C := RX6) (T := TX6) (N := 7) rfl rfl (by decide) in_X6 wl_1_52 dX1_cartBears_21 (?_ : Sd X 24 [(0, 11), (1, 16), (2, 0), (3, 0)] [0, 0] _)
    refine sd_icmp_lt (tgt := 31) hC dX1_cartBears_24 rfl (?_ : Sd X 31 [(0, 11), (1, 16), (2, 0), (3, 0)] [] _) (?_ : Sd X 27 [(0, 11), (1, 16), (2, 0), (3, 0)] [] _)
    · exact Sd.weak (by decide) (S_31)
    · refine sd_iconst hC dX1_cartBears_27 ⟨by decide, by decide⟩ (?_ : Sd X 28 [(0, 11), (1, 16), (2, 0), (3, 0)] [0] _)
      refine sd_goto (tgt := 32) hC dX1_cartBears_28 rfl (?_ : Sd X 32 [(0, 11), (1, 16), (2, 0), (3, 0)] [0] _)
      exact Sd.weak (by decide) (S_32)
theorem wl_1_77 : Cond.fieldLink RX1 39 "NarrowRings$City" "rings" "I" ∈ WALL := tb1 (List.mem_of_getElem? (i := 77) rfl) rfl
theorem wl_1_110 : Cond.fieldLink RX1 23 "NarrowRings$City" "store" "[[I" ∈ WALL := tb1 (List.mem_of_getElem? (i := 110) rfl) rfl
theorem hd_X1_daysOf : yX1_daysOf.cls ≠ "java/lang/invoke/MethodHandle" ∧ yX1_daysOf.cls ≠ "java/lang/invoke/VarHandle" ∧ (parseMethodDescriptor yX1_daysOf.desc).map (fun d => d.parameters.length) = some 1 := by decide +kernel
set_option maxRecDepth 100000 in
set_option maxHeartbeats 4000000 in
theorem M_X1_daysOf (l : Launch) : Mt l yX1_daysOf (Cond.code yX1_daysOf cX1_daysOf 5 (some .int) :: WALL) { frames := 0, cells := 0, slots := 0, locals := 0 } [11, 0] (some 0) T_X1_daysOf := by
  refine Mt.mk (B := E_X1_daysOf) (by decide +kernel) (by decide) (fun _ _ _ hh => hh) ?_
  intro X Q e1 e2 e3 hC hN hT
  subst e1
  have hC : CF X cX1_daysOf RX1 WALL := hC
  have S_69 : Sd X 69 [(0, 11), (1, 0), (2, 0), (3, 0), (4, 0)] [0] (B_X1_daysOf_69 Q) := by
    unfold B_X1_daysOf_69
    exact sd_ireturn hC hT dX1_daysOf_69
  have S_48 : ∀ (k7 : tK), Sd X 7 [(0, 11), (1, 0), (2, 0), (3, 0), (4, 0)] [] k7 → Sd X 48 [(0, 11), (1, 0), (2, 0), (3, 0), (4, 0)] [0, 0] (B_X1_daysOf_48 Q k7) := by
    intro k7 h7
    unfold B_X1_daysOf_48
    refine sd_iadd hC dX1_daysOf_48 (?_ : Sd X 49 [(0, 11), (1, 0), (2, 0), (3, 0), (4, 0)] [0] _)
    refine sd_istore_n (Γ' := [(0, 11), (1, 0), (2, 0), (3, 0), (4, 0)]) hC dX1_daysOf_49 rfl (by rw [e2]; decide) (by decide) (?_ : Sd X 50 [(0, 11), (1, 0), (2, 0), (3, 0), (4, 0)] [] _)
    refine sd_iinc (Γ' := [(0, 11), (1, 0), (2, 0), (3, 0), (4, 0)]) hC dX1_daysOf_50 (by decide) (by rw [e2]; decide) (by decide) (?_ : Sd X 53 [(0, 11), (1, 0), (2, 0), (3, 0), (4, 0)] [] _)
    refine sd_goto (tgt := 7) hC dX1_daysOf_53 rfl (?_ : Sd X 7 [(0, 11), (1, 0), (2, 0), (3, 0), (4, 0)] [] _)
    exact Sd.weak (by decide) h7
  have S_7 : Sd X 7 [(0, 11), (1, 0), (2, 0), (3, 0), (4, 0)] [] (L_X1_daysOf_7 Q) := by
    unfold L_X1_daysOf_7
    refine Sd.loop (fun k7 h7 => ?_)
    refine sd_iload hC dX1_daysOf_7 (by decide) (?_ : Sd X 9 [(0, 11), (1, 0), (2, 0), (3, 0), (4, 0)] [0] _)
    refine sd_aload_n hC 11 dX1_daysOf_9 rfl (by decide) (by decide) (?_ : Sd X 10 [(0, 11), (1, 0), (2, 0), (3, 0), (4, 0)] [11, 0] _)
    refine sd_get hC (ci := 1) (j := 0) (C := RX1) (T := TX1) (N := 12) rfl rfl (by decide) in_X1 wl_1_77 dX1_daysOf_10 (?_ : Sd X 13 [(0, 11), (1, 0), (2, 0), (3, 0), (4, 0)] [0, 0] _)
    refine sd_icmp_ge (tgt := 56) hC dX1_daysOf_13 rfl (?_ : Sd X 56 [(0, 11), (1, 0), (2, 0), (3, 0), (4, 0)] [] _) (?_ : Sd X 16 [(0, 11), (1, 0), (2, 0), (3, 0), (4, 0)] [] _)
    · refine sd_iload_n hC dX1_daysOf_56 rfl (by decide) (?_ : Sd X 57 [(0, 11), (1, 0), (2, 0), (3, 0), (4, 0)] [0] _)
      refine sd_if_ne (tgt := 66) hC dX1_daysOf_57 rfl (?_ : Sd X 66 [(0, 11), (1, 0), (2, 0), (3, 0), (4, 0)] [] _) (?_ : Sd X 60 [(0, 11), (1, 0), (2, 0), (3, 0), (4, 0)] [] _)
      · refine sd_iload_n hC dX1_daysOf_66 rfl (by decide) (?_ : Sd X 67 [(0, 11), (1, 0), (2, 0), (3, 0), (4, 0)] [0] _)
        refine sd_iload_n hC dX1_daysOf_67 rfl (by decide) (?_ : Sd X 68 [(0, 11), (1, 0), (2, 0), (3, 0), (4, 0)] [0, 0] _)
        refine sd_idiv hC dX1_daysOf_68 (?_ : Sd X 69 [(0, 11), (1, 0), (2, 0), (3, 0), (4, 0)] [0] _)
        exact Sd.weak (by decide) (S_69)
      · refine sd_sipush hC dX1_daysOf_60 (by decide) (?_ : Sd X 63 [(0, 11), (1, 0), (2, 0), (3, 0), (4, 0)] [0] _)
        refine sd_goto (tgt := 69) hC dX1_daysOf_63 rfl (?_ : Sd X 69 [(0, 11), (1, 0), (2, 0), (3, 0), (4, 0)] [0] _)
        exact Sd.weak (by decide) (S_69)
    · refine sd_iload_n hC dX1_daysOf_16 rfl (by decide) (?_ : Sd X 17 [(0, 11), (1, 0), (2, 0), (3, 0), (4, 0)] [0] _)
      refine sd_aload_n hC 11 dX1_daysOf_17 rfl (by decide) (by decide) (?_ : Sd X 18 [(0, 11), (1, 0), (2, 0), (3, 0), (4, 0)] [11, 0] _)
      refine sd_get hC (ci := 1) (j := 8) (C := RX1) (T := TX1) (N := 12) rfl rfl (by decide) in_X1 wl_1_110 dX1_daysOf_18 (?_ : Sd X 21 [(0, 11), (1, 0), (2, 0), (3, 0), (4, 0)] [200, 0] _)
      refine sd_iload hC dX1_daysOf_21 (by decide) (?_ : Sd X 23 [(0, 11), (1, 0), (2, 0), (3, 0), (4, 0)] [0, 200, 0] _)
      refine sd_aaload (e := 100) hC (List.mem_of_getElem? (i := 7) rfl) rfl rfl dX1_daysOf_23 (?_ : Sd X 24 [(0, 11), (1, 0), (2, 0), (3, 0), (4, 0)] [100, 0] _)
      refine sd_iconst hC dX1_daysOf_24 ⟨by decide, by decide⟩ (?_ : Sd X 25 [(0, 11), (1, 0), (2, 0), (3, 0), (4, 0)] [0, 100, 0] _)
      refine sd_iaload hC dX1_daysOf_25 (?_ : Sd X 26 [(0, 11), (1, 0), (2, 0), (3, 0), (4, 0)] [0, 0] _)
      refine sd_iadd hC dX1_daysOf_26 (?_ : Sd X 27 [(0, 11), (1, 0), (2, 0), (3, 0), (4, 0)] [0] _)
      refine sd_istore_n (Γ' := [(0, 11), (1, 0), (2, 0), (3, 0), (4, 0)]) hC dX1_daysOf_27 rfl (by rw [e2]; decide) (by decide) (?_ : Sd X 28 [(0, 11), (1, 0), (2, 0), (3, 0), (4, 0)] [] _)
      refine sd_iload_n hC dX1_daysOf_28 rfl (by decide) (?_ : Sd X 29 [(0, 11), (1, 0), (2, 0), (3, 0), (4, 0)] [0] _)
      refine sd_iload hC dX1_daysOf_29 (by decide) (?_ : Sd X 31 [(0, 11), (1, 0), (2, 0), (3, 0), (4, 0)] [0, 0] _)
      refine sd_iload_n hC dX1_daysOf_31 rfl (by decide) (?_ : Sd X 32 [(0, 11), (1, 0), (2, 0), (3, 0), (4, 0)] [0, 0, 0] _)
      refine sd_icmp_lt (tgt := 47) hC dX1_daysOf_32 rfl (?_ : Sd X 47 [(0, 11), (1, 0), (2, 0), (3, 0), (4, 0)] [0] _) (?_ : Sd X 35 [(0, 11), (1, 0), (2, 0), (3, 0), (4, 0)] [0] _)
      · refine sd_iconst hC dX1_daysOf_47 ⟨by decide, by decide⟩ (?_ : Sd X 48 [(0, 11), (1, 0), (2, 0), (3, 0), (4, 0)] [0, 0] _)
        exact Sd.weak (by decide) (S_48 k7 h7)
      · refine sd_aload_n hC 11 dX1_daysOf_35 rfl (by decide) (by decide) (?_ : Sd X 36 [(0, 11), (1, 0), (2, 0), (3, 0), (4, 0)] [11, 0] _)
        refine sd_get hC (ci := 1) (j := 8) (C := RX1) (T := TX1) (N := 12) rfl rfl (by decide) in_X1 wl_1_110 dX1_daysOf_36 (?_ : Sd X 39 [(0, 11), (1, 0), (2, 0), (3, 0), (4, 0)] [200, 0] _)
        refine sd_iload hC dX1_daysOf_39 (by decide) (?_ : Sd X 41 [(0, 11), (1, 0), (2, 0), (3, 0), (4, 0)] [0, 200, 0] _)
        refine sd_aaload (e := 100) hC (List.mem_of_getElem? (i := 7) rfl) rfl rfl dX1_daysOf_41 (?_ : Sd X 42 [(0, 11), (1, 0), (2, 0), (3, 0), (4, 0)] [100, 0] _)
        refine sd_iconst hC dX1_daysOf_42 ⟨by decide, by decide⟩ (?_ : Sd X 43 [(0, 11), (1, 0), (2, 0), (3, 0), (4, 0)] [0, 100, 0] _)
        refine sd_iaload hC dX1_daysOf_43 (?_ : Sd X 44 [(0, 11), (1, 0), (2, 0), (3, 0), (4, 0)] [0, 0] _)
        refine sd_goto (tgt := 48) hC dX1_daysOf_44 rfl (?_ : Sd X 48 [(0, 11), (1, 0), (2, 0), (3, 0), (4, 0)] [0, 0] _)
        exact Sd.weak (by decide) (S_48 k7 h7)
  refine (?_ : Sd X 0 [(0, 11), (1, 0)] [] (E_X1_daysOf Q))
  unfold E_X1_daysOf
  refine sd_iconst hC dX1_daysOf_0 ⟨by decide, by decide⟩ (?_ : Sd X 1 [(0, 11), (1, 0)] [0] _)
  refine sd_istore_n (Γ' := [(0, 11), (1, 0), (2, 0)]) hC dX1_daysOf_1 rfl (by rw [e2]; decide) (by decide) (?_ : Sd X 2 [(0, 11), (1, 0), (2, 0)] [] _)
  refine sd_iconst hC dX1_daysOf_2 ⟨by decide, by decide⟩ (?_ : Sd X 3 [(0, 11), (1, 0), (2, 0)] [0] _)
  refine sd_istore_n (Γ' := [(0, 11), (1, 0), (2, 0), (3, 0)]) hC dX1_daysOf_3 rfl (by rw [e2]; decide) (by decide) (?_ : Sd X 4 [(0, 11), (1, 0), (2, 0), (3, 0)] [] _)
  refine sd_iconst hC dX1_daysOf_4 ⟨by decide, by decide⟩ (?_ : Sd X 5 [(0, 11), (1, 0), (2, 0), (3, 0)] [0] _)
  refine sd_istore (Γ' := [(0, 11), (1, 0), (2, 0), (3, 0), (4, 0)]) hC dX1_daysOf_5 (by rw [e2]; decide) (by decide) (?_ : Sd X 7 [(0, 11), (1, 0), (2, 0), (3, 0), (4, 0)] [] _)
  exact Sd.weak (by decide) (S_7)
theorem wl_1_48 : Cond.fieldLink RX6 13 "NarrowRings$Thing" "wide" "[I" ∈ WALL := tb1 (List.mem_of_getElem? (i := 48) rfl) rfl
theorem hd_X6_narrowest : yX6_narrowest.cls ≠ "java/lang/invoke/MethodHandle" ∧ yX6_narrowest.cls ≠ "java/lang/invoke/VarHandle" ∧ (parseMethodDescriptor yX6_narrowest.desc).map (fun d => d.parameters.length) = some 0 := by decide +kernel
set_option maxRecDepth 100000 in
set_option maxHeartbeats 4000000 in
theorem M_X6_narrowest (l : Launch) : Mt l yX6_narrowest (Cond.code yX6_narrowest cX6_narrowest 1 (some .int) :: WALL) { frames := 0, cells := 0, slots := 0, locals := 0 } [16] (some 0) T_X6_narrowest := by
  refine Mt.mk (B := E_X6_narrowest) (by decide +kernel) (by decide) (fun _ _ _ hh => hh) ?_
  intro X Q e1 e2 e3 hC hN hT
  subst e1
  have hC : CF X cX6_narrowest RX6 WALL := hC
  have S_37 : Sd X 37 [(0, 16)] [0] (B_X6_narrowest_37 Q) := by
    unfold B_X6_narrowest_37
    exact sd_ireturn hC hT dX6_narrowest_37
  have S_31 : Sd X 31 [(0, 16)] [] (B_X6_narrowest_31 Q) := by
    unfold B_X6_narrowest_31
    refine sd_aload_n hC 16 dX6_narrowest_31 rfl (by decide) (by decide) (?_ : Sd X 32 [(0, 16)] [16] _)
    refine sd_get hC (ci := 6) (j := 1) (C := RX6) (T := TX6) (N := 7) rfl rfl (by decide) in_X6 wl_1_48 dX6_narrowest_32 (?_ : Sd X 35 [(0, 16)] [100] _)
    refine sd_iconst hC dX6_narrowest_35 ⟨by decide, by decide⟩ (?_ : Sd X 36 [(0, 16)] [0, 100] _)
    refine sd_iaload hC dX6_narrowest_36 (?_ : Sd X 37 [(0, 16)] [0] _)
    exact Sd.weak (by decide) (S_37)
  refine (?_ : Sd X 0 [(0, 16)] [] (E_X6_narrowest Q))
  unfold E_X6_narrowest
  refine sd_aload_n hC 16 dX6_narrowest_0 rfl (by decide) (by decide) (?_ : Sd X 1 [(0, 16)] [16] _)
  refine sd_get hC (ci := 6) (j := 5) (C := RX6) (T := TX6) (N := 7) rfl rfl (by decide) in_X6 wl_1_57 dX6_narrowest_1 (?_ : Sd X 4 [(0, 16)] [0] _)
  refine sd_if_eq (tgt := 31) hC dX6_narrowest_4 rfl (?_ : Sd X 31 [(0, 16)] [] _) (?_ : Sd X 7 [(0, 16)] [] _)
  · exact Sd.weak (by decide) (S_31)
  · refine sd_aload_n hC 16 dX6_narrowest_7 rfl (by decide) (by decide) (?_ : Sd X 8 [(0, 16)] [16] _)
    refine sd_get hC (ci := 6) (j := 1) (C := RX6) (T := TX6) (N := 7) rfl rfl (by decide) in_X6 wl_1_48 dX6_narrowest_8 (?_ : Sd X 11 [(0, 16)] [100] _)
    refine sd_iconst hC dX6_narrowest_11 ⟨by decide, by decide⟩ (?_ : Sd X 12 [(0, 16)] [0, 100] _)
    refine sd_iaload hC dX6_narrowest_12 (?_ : Sd X 13 [(0, 16)] [0] _)
    refine sd_aload_n hC 16 dX6_narrowest_13 rfl (by decide) (by decide) (?_ : Sd X 14 [(0, 16)] [16, 0] _)
    refine sd_get hC (ci := 6) (j := 1) (C := RX6) (T := TX6) (N := 7) rfl rfl (by decide) in_X6 wl_1_48 dX6_narrowest_14 (?_ : Sd X 17 [(0, 16)] [100, 0] _)
    refine sd_iconst hC dX6_narrowest_17 ⟨by decide, by decide⟩ (?_ : Sd X 18 [(0, 16)] [0, 100, 0] _)
    refine sd_iaload hC dX6_narrowest_18 (?_ : Sd X 19 [(0, 16)] [0, 0] _)
    refine sd_icmp_ge (tgt := 31) hC dX6_narrowest_19 rfl (?_ : Sd X 31 [(0, 16)] [] _) (?_ : Sd X 22 [(0, 16)] [] _)
    · exact Sd.weak (by decide) (S_31)
    · refine sd_aload_n hC 16 dX6_narrowest_22 rfl (by decide) (by decide) (?_ : Sd X 23 [(0, 16)] [16] _)
      refine sd_get hC (ci := 6) (j := 1) (C := RX6) (T := TX6) (N := 7) rfl rfl (by decide) in_X6 wl_1_48 dX6_narrowest_23 (?_ : Sd X 26 [(0, 16)] [100] _)
      refine sd_iconst hC dX6_narrowest_26 ⟨by decide, by decide⟩ (?_ : Sd X 27 [(0, 16)] [0, 100] _)
      refine sd_iaload hC dX6_narrowest_27 (?_ : Sd X 28 [(0, 16)] [0] _)
      refine sd_goto (tgt := 37) hC dX6_narrowest_28 rfl (?_ : Sd X 37 [(0, 16)] [0] _)
      exact Sd.weak (by decide) (S_37)
theorem wl_3_149 : Cond.methodLink RX1 67 yX6_narrowest ∈ WALL := tb3 (List.mem_of_getElem? (i := 149) rfl) rfl
theorem wl_3_150 : Cond.instanceMethod yX6_narrowest ∈ WALL := tb3 (List.mem_of_getElem? (i := 150) rfl) rfl
theorem wl_3_151 : Cond.selects RX6 yX6_narrowest yX6_narrowest ∈ WALL := tb3 (List.mem_of_getElem? (i := 151) rfl) rfl
theorem wl_3_152 : Cond.code yX6_narrowest cX6_narrowest 1 (some .int) ∈ WALL := tb3 (List.mem_of_getElem? (i := 152) rfl) rfl
theorem wl_1_88 : Cond.fieldLink RX1 46 "NarrowRings$City" "carts" "I" ∈ WALL := tb1 (List.mem_of_getElem? (i := 88) rfl) rfl
theorem wl_3_153 : Cond.methodLink RX1 71 yX1_cartBears ∈ WALL := tb3 (List.mem_of_getElem? (i := 153) rfl) rfl
theorem wl_3_154 : Cond.instanceMethod yX1_cartBears ∈ WALL := tb3 (List.mem_of_getElem? (i := 154) rfl) rfl
theorem wl_3_155 : Cond.selects RX1 yX1_cartBears yX1_cartBears ∈ WALL := tb3 (List.mem_of_getElem? (i := 155) rfl) rfl
theorem wl_3_156 : Cond.code yX1_cartBears cX1_cartBears 4 (some .boolean) ∈ WALL := tb3 (List.mem_of_getElem? (i := 156) rfl) rfl
theorem hd_X1_ringBears : yX1_ringBears.cls ≠ "java/lang/invoke/MethodHandle" ∧ yX1_ringBears.cls ≠ "java/lang/invoke/VarHandle" ∧ (parseMethodDescriptor yX1_ringBears.desc).map (fun d => d.parameters.length) = some 2 := by decide +kernel
set_option maxRecDepth 100000 in
set_option maxHeartbeats 4000000 in
theorem M_X1_ringBears (l : Launch) : Mt l yX1_ringBears (Cond.code yX1_ringBears cX1_ringBears 4 (some .boolean) :: WALL) { frames := 1, cells := 0, slots := 0, locals := 23 } [11, 16, 0] (some 0) T_X1_ringBears := by
  refine Mt.mk (B := E_X1_ringBears) (by decide +kernel) (by decide) (fun _ _ _ hh => hh) ?_
  intro X Q e1 e2 e3 hC hN hT
  subst e1
  have hC : CF X cX1_ringBears RX1 WALL := hC
  have S_17 : Sd X 17 [(0, 11), (1, 16), (2, 0), (3, 0)] [] (L_X1_ringBears_17 Q) := by
    unfold L_X1_ringBears_17
    refine Sd.loop (fun k17 h17 => ?_)
    refine sd_iload_n hC dX1_ringBears_17 rfl (by decide) (?_ : Sd X 18 [(0, 11), (1, 16), (2, 0), (3, 0)] [0] _)
    refine sd_aload_n hC 11 dX1_ringBears_18 rfl (by decide) (by decide) (?_ : Sd X 19 [(0, 11), (1, 16), (2, 0), (3, 0)] [11, 0] _)
    refine sd_get hC (ci := 1) (j := 2) (C := RX1) (T := TX1) (N := 12) rfl rfl (by decide) in_X1 wl_1_88 dX1_ringBears_19 (?_ : Sd X 22 [(0, 11), (1, 16), (2, 0), (3, 0)] [0, 0] _)
    refine sd_icmp_ge (tgt := 43) hC dX1_ringBears_22 rfl (?_ : Sd X 43 [(0, 11), (1, 16), (2, 0), (3, 0)] [] _) (?_ : Sd X 25 [(0, 11), (1, 16), (2, 0), (3, 0)] [] _)
    · refine sd_iconst hC dX1_ringBears_43 ⟨by decide, by decide⟩ (?_ : Sd X 44 [(0, 11), (1, 16), (2, 0), (3, 0)] [0] _)
      exact sd_zreturn hC hT dX1_ringBears_44
    · refine sd_aload_n hC 11 dX1_ringBears_25 rfl (by decide) (by decide) (?_ : Sd X 26 [(0, 11), (1, 16), (2, 0), (3, 0)] [11] _)
      refine sd_aload_n hC 16 dX1_ringBears_26 rfl (by decide) (by decide) (?_ : Sd X 27 [(0, 11), (1, 16), (2, 0), (3, 0)] [16, 11] _)
      refine sd_iload_n hC dX1_ringBears_27 rfl (by decide) (?_ : Sd X 28 [(0, 11), (1, 16), (2, 0), (3, 0)] [0, 16, 11] _)
      refine sd_iload_n hC dX1_ringBears_28 rfl (by decide) (?_ : Sd X 29 [(0, 11), (1, 16), (2, 0), (3, 0)] [0, 0, 16, 11] _)
      refine sd_inv0 (τ := []) (τr := [16, 0, 0]) (ci := 1) (q := (RX1, TX1, 12)) hC WG (M_X1_cartBears _) rfl rfl rfl rfl  rfl rfl wl_3_153 wl_3_154 wl_3_155 wl_1_2 wl_3_156 hd_X1_cartBears (by rw [e3]; decide) (by decide) dX1_ringBears_29 (?_ : Sd X 32 [(0, 11), (1, 16), (2, 0), (3, 0)] [0] _)
      refine sd_if_eq (tgt := 37) hC dX1_ringBears_32 rfl (?_ : Sd X 37 [(0, 11), (1, 16), (2, 0), (3, 0)] [] _) (?_ : Sd X 35 [(0, 11), (1, 16), (2, 0), (3, 0)] [] _)
      · refine sd_iinc (Γ' := [(0, 11), (1, 16), (2, 0), (3, 0)]) hC dX1_ringBears_37 (by decide) (by rw [e2]; decide) (by decide) (?_ : Sd X 40 [(0, 11), (1, 16), (2, 0), (3, 0)] [] _)
        refine sd_goto (tgt := 17) hC dX1_ringBears_40 rfl (?_ : Sd X 17 [(0, 11), (1, 16), (2, 0), (3, 0)] [] _)
        exact Sd.weak (by decide) h17
      · refine sd_iconst hC dX1_ringBears_35 ⟨by decide, by decide⟩ (?_ : Sd X 36 [(0, 11), (1, 16), (2, 0), (3, 0)] [0] _)
        exact sd_zreturn hC hT dX1_ringBears_36
  refine (?_ : Sd X 0 [(0, 11), (1, 16), (2, 0)] [] (E_X1_ringBears Q))
  unfold E_X1_ringBears
  refine sd_aload_n hC 16 dX1_ringBears_0 rfl (by decide) (by decide) (?_ : Sd X 1 [(0, 11), (1, 16), (2, 0)] [16] _)
  refine sd_inv0 (τ := []) (τr := []) (ci := 6) (q := (RX6, TX6, 7)) hC WG (M_X6_narrowest _) rfl rfl rfl rfl  rfl rfl wl_3_149 wl_3_150 wl_3_151 wl_1_3 wl_3_152 hd_X6_narrowest (by rw [e3]; decide) (by decide) dX1_ringBears_1 (?_ : Sd X 4 [(0, 11), (1, 16), (2, 0)] [0] _)
  refine sd_aload_n hC 11 dX1_ringBears_4 rfl (by decide) (by decide) (?_ : Sd X 5 [(0, 11), (1, 16), (2, 0)] [11, 0] _)
  refine sd_get hC (ci := 1) (j := 5) (C := RX1) (T := TX1) (N := 12) rfl rfl (by decide) in_X1 wl_1_99 dX1_ringBears_5 (?_ : Sd X 8 [(0, 11), (1, 16), (2, 0)] [100, 0] _)
  refine sd_iload_n hC dX1_ringBears_8 rfl (by decide) (?_ : Sd X 9 [(0, 11), (1, 16), (2, 0)] [0, 100, 0] _)
  refine sd_iaload hC dX1_ringBears_9 (?_ : Sd X 10 [(0, 11), (1, 16), (2, 0)] [0, 0] _)
  refine sd_icmp_le (tgt := 15) hC dX1_ringBears_10 rfl (?_ : Sd X 15 [(0, 11), (1, 16), (2, 0)] [] _) (?_ : Sd X 13 [(0, 11), (1, 16), (2, 0)] [] _)
  · refine sd_iconst hC dX1_ringBears_15 ⟨by decide, by decide⟩ (?_ : Sd X 16 [(0, 11), (1, 16), (2, 0)] [0] _)
    refine sd_istore_n (Γ' := [(0, 11), (1, 16), (2, 0), (3, 0)]) hC dX1_ringBears_16 rfl (by rw [e2]; decide) (by decide) (?_ : Sd X 17 [(0, 11), (1, 16), (2, 0), (3, 0)] [] _)
    exact Sd.weak (by decide) (S_17)
  · refine sd_iconst hC dX1_ringBears_13 ⟨by decide, by decide⟩ (?_ : Sd X 14 [(0, 11), (1, 16), (2, 0)] [0] _)
    exact sd_zreturn hC hT dX1_ringBears_14
theorem wl_4_49 : Cond.methodLink RX1 116 yX1_ringBears ∈ WALL := tb4 (List.mem_of_getElem? (i := 49) rfl) rfl
theorem wl_3_146 : Cond.instanceMethod yX1_ringBears ∈ WALL := tb3 (List.mem_of_getElem? (i := 146) rfl) rfl
theorem wl_3_147 : Cond.selects RX1 yX1_ringBears yX1_ringBears ∈ WALL := tb3 (List.mem_of_getElem? (i := 147) rfl) rfl
theorem wl_3_148 : Cond.code yX1_ringBears cX1_ringBears 4 (some .boolean) ∈ WALL := tb3 (List.mem_of_getElem? (i := 148) rfl) rfl
theorem hd_X1_ringSuits : yX1_ringSuits.cls ≠ "java/lang/invoke/MethodHandle" ∧ yX1_ringSuits.cls ≠ "java/lang/invoke/VarHandle" ∧ (parseMethodDescriptor yX1_ringSuits.desc).map (fun d => d.parameters.length) = some 3 := by decide +kernel
set_option maxRecDepth 100000 in
set_option maxHeartbeats 4000000 in
theorem M_X1_ringSuits (l : Launch) : Mt l yX1_ringSuits (Cond.code yX1_ringSuits cX1_ringSuits 4 (some .boolean) :: WALL) { frames := 2, cells := 0, slots := 0, locals := 46 } [11, 16, 0, 0] (some 0) T_X1_ringSuits := by
  refine Mt.mk (B := E_X1_ringSuits) (by decide +kernel) (by decide) (fun _ _ _ hh => hh) ?_
  intro X Q e1 e2 e3 hC hN hT
  subst e1
  have hC : CF X cX1_ringSuits RX1 WALL := hC
  have S_31 : Sd X 31 [(0, 11), (1, 16), (2, 0), (3, 0)] [0] (B_X1_ringSuits_31 Q) := by
    unfold B_X1_ringSuits_31
    exact sd_zreturn hC hT dX1_ringSuits_31
  refine (?_ : Sd X 0 [(0, 11), (1, 16), (2, 0), (3, 0)] [] (E_X1_ringSuits Q))
  unfold E_X1_ringSuits
  refine sd_iload_n hC dX1_ringSuits_0 rfl (by decide) (?_ : Sd X 1 [(0, 11), (1, 16), (2, 0), (3, 0)] [0] _)
  refine sd_if_eq (tgt := 13) hC dX1_ringSuits_1 rfl (?_ : Sd X 13 [(0, 11), (1, 16), (2, 0), (3, 0)] [] _) (?_ : Sd X 4 [(0, 11), (1, 16), (2, 0), (3, 0)] [] _)
  · refine sd_aload_n hC 16 dX1_ringSuits_13 rfl (by decide) (by decide) (?_ : Sd X 14 [(0, 11), (1, 16), (2, 0), (3, 0)] [16] _)
    refine sd_inv0 (τ := []) (τr := []) (ci := 6) (q := (RX6, TX6, 7)) hC WG (M_X6_narrowest _) rfl rfl rfl rfl  rfl rfl wl_3_149 wl_3_150 wl_3_151 wl_1_3 wl_3_152 hd_X6_narrowest (by rw [e3]; decide) (by decide) dX1_ringSuits_14 (?_ : Sd X 17 [(0, 11), (1, 16), (2, 0), (3, 0)] [0] _)
    refine sd_aload_n hC 11 dX1_ringSuits_17 rfl (by decide) (by decide) (?_ : Sd X 18 [(0, 11), (1, 16), (2, 0), (3, 0)] [11, 0] _)
    refine sd_get hC (ci := 1) (j := 5) (C := RX1) (T := TX1) (N := 12) rfl rfl (by decide) in_X1 wl_1_99 dX1_ringSuits_18 (?_ : Sd X 21 [(0, 11), (1, 16), (2, 0), (3, 0)] [100, 0] _)
    refine sd_iload_n hC dX1_ringSuits_21 rfl (by decide) (?_ : Sd X 22 [(0, 11), (1, 16), (2, 0), (3, 0)] [0, 100, 0] _)
    refine sd_iaload hC dX1_ringSuits_22 (?_ : Sd X 23 [(0, 11), (1, 16), (2, 0), (3, 0)] [0, 0] _)
    refine sd_icmp_gt (tgt := 30) hC dX1_ringSuits_23 rfl (?_ : Sd X 30 [(0, 11), (1, 16), (2, 0), (3, 0)] [] _) (?_ : Sd X 26 [(0, 11), (1, 16), (2, 0), (3, 0)] [] _)
    · refine sd_iconst hC dX1_ringSuits_30 ⟨by decide, by decide⟩ (?_ : Sd X 31 [(0, 11), (1, 16), (2, 0), (3, 0)] [0] _)
      exact Sd.weak (by decide) (S_31)
    · refine sd_iconst hC dX1_ringSuits_26 ⟨by decide, by decide⟩ (?_ : Sd X 27 [(0, 11), (1, 16), (2, 0), (3, 0)] [0] _)
      refine sd_goto (tgt := 31) hC dX1_ringSuits_27 rfl (?_ : Sd X 31 [(0, 11), (1, 16), (2, 0), (3, 0)] [0] _)
      exact Sd.weak (by decide) (S_31)
  · refine sd_aload_n hC 11 dX1_ringSuits_4 rfl (by decide) (by decide) (?_ : Sd X 5 [(0, 11), (1, 16), (2, 0), (3, 0)] [11] _)
    refine sd_aload_n hC 16 dX1_ringSuits_5 rfl (by decide) (by decide) (?_ : Sd X 6 [(0, 11), (1, 16), (2, 0), (3, 0)] [16, 11] _)
    refine sd_iload_n hC dX1_ringSuits_6 rfl (by decide) (?_ : Sd X 7 [(0, 11), (1, 16), (2, 0), (3, 0)] [0, 16, 11] _)
    refine sd_inv0 (τ := []) (τr := [16, 0]) (ci := 1) (q := (RX1, TX1, 12)) hC WG (M_X1_ringBears _) rfl rfl rfl rfl  rfl rfl wl_4_49 wl_3_146 wl_3_147 wl_1_2 wl_3_148 hd_X1_ringBears (by rw [e3]; decide) (by decide) dX1_ringSuits_7 (?_ : Sd X 10 [(0, 11), (1, 16), (2, 0), (3, 0)] [0] _)
    refine sd_goto (tgt := 31) hC dX1_ringSuits_10 rfl (?_ : Sd X 31 [(0, 11), (1, 16), (2, 0), (3, 0)] [0] _)
    exact Sd.weak (by decide) (S_31)
theorem wl_3_165 : Cond.methodLink RX1 98 yX1_barOf ∈ WALL := tb3 (List.mem_of_getElem? (i := 165) rfl) rfl
theorem wl_3_166 : Cond.instanceMethod yX1_barOf ∈ WALL := tb3 (List.mem_of_getElem? (i := 166) rfl) rfl
theorem wl_3_167 : Cond.selects RX1 yX1_barOf yX1_barOf ∈ WALL := tb3 (List.mem_of_getElem? (i := 167) rfl) rfl
theorem wl_3_168 : Cond.code yX1_barOf cX1_barOf 5 (some .int) ∈ WALL := tb3 (List.mem_of_getElem? (i := 168) rfl) rfl
theorem hd_X1_letsThrough : yX1_letsThrough.cls ≠ "java/lang/invoke/MethodHandle" ∧ yX1_letsThrough.cls ≠ "java/lang/invoke/VarHandle" ∧ (parseMethodDescriptor yX1_letsThrough.desc).map (fun d => d.parameters.length) = some 2 := by decide +kernel
set_option maxRecDepth 100000 in
set_option maxHeartbeats 4000000 in
theorem M_X1_letsThrough (l : Launch) : Mt l yX1_letsThrough (Cond.code yX1_letsThrough cX1_letsThrough 3 (some .boolean) :: WALL) { frames := 2, cells := 0, slots := 0, locals := 52 } [11, 16, 0] (some 0) T_X1_letsThrough := by
  refine Mt.mk (B := E_X1_letsThrough) (by decide +kernel) (by decide) (fun _ _ _ hh => hh) ?_
  intro X Q e1 e2 e3 hC hN hT
  subst e1
  have hC : CF X cX1_letsThrough RX1 WALL := hC
  have S_26 : Sd X 26 [(0, 11), (1, 16), (2, 0)] [0] (B_X1_letsThrough_26 Q) := by
    unfold B_X1_letsThrough_26
    exact sd_zreturn hC hT dX1_letsThrough_26
  have S_25 : Sd X 25 [(0, 11), (1, 16), (2, 0)] [] (B_X1_letsThrough_25 Q) := by
    unfold B_X1_letsThrough_25
    refine sd_iconst hC dX1_letsThrough_25 ⟨by decide, by decide⟩ (?_ : Sd X 26 [(0, 11), (1, 16), (2, 0)] [0] _)
    exact Sd.weak (by decide) (S_26)
  refine (?_ : Sd X 0 [(0, 11), (1, 16), (2, 0)] [] (E_X1_letsThrough Q))
  unfold E_X1_letsThrough
  refine sd_aload_n hC 11 dX1_letsThrough_0 rfl (by decide) (by decide) (?_ : Sd X 1 [(0, 11), (1, 16), (2, 0)] [11] _)
  refine sd_get hC (ci := 1) (j := 6) (C := RX1) (T := TX1) (N := 12) rfl rfl (by decide) in_X1 wl_1_101 dX1_letsThrough_1 (?_ : Sd X 4 [(0, 11), (1, 16), (2, 0)] [200] _)
  refine sd_iload_n hC dX1_letsThrough_4 rfl (by decide) (?_ : Sd X 5 [(0, 11), (1, 16), (2, 0)] [0, 200] _)
  refine sd_aaload (e := 100) hC (List.mem_of_getElem? (i := 7) rfl) rfl rfl dX1_letsThrough_5 (?_ : Sd X 6 [(0, 11), (1, 16), (2, 0)] [100] _)
  refine sd_bipush hC dX1_letsThrough_6 (by decide) (?_ : Sd X 8 [(0, 11), (1, 16), (2, 0)] [0, 100] _)
  refine sd_iaload hC dX1_letsThrough_8 (?_ : Sd X 9 [(0, 11), (1, 16), (2, 0)] [0] _)
  refine sd_if_ne (tgt := 25) hC dX1_letsThrough_9 rfl (?_ : Sd X 25 [(0, 11), (1, 16), (2, 0)] [] _) (?_ : Sd X 12 [(0, 11), (1, 16), (2, 0)] [] _)
  · exact Sd.weak (by decide) (S_25)
  · refine sd_aload_n hC 11 dX1_letsThrough_12 rfl (by decide) (by decide) (?_ : Sd X 13 [(0, 11), (1, 16), (2, 0)] [11] _)
    refine sd_aload_n hC 16 dX1_letsThrough_13 rfl (by decide) (by decide) (?_ : Sd X 14 [(0, 11), (1, 16), (2, 0)] [16, 11] _)
    refine sd_iload_n hC dX1_letsThrough_14 rfl (by decide) (?_ : Sd X 15 [(0, 11), (1, 16), (2, 0)] [0, 16, 11] _)
    refine sd_inv0 (τ := []) (τr := [16, 0]) (ci := 1) (q := (RX1, TX1, 12)) hC WG (M_X1_barOf _) rfl rfl rfl rfl  rfl rfl wl_3_165 wl_3_166 wl_3_167 wl_1_2 wl_3_168 hd_X1_barOf (by rw [e3]; decide) (by decide) dX1_letsThrough_15 (?_ : Sd X 18 [(0, 11), (1, 16), (2, 0)] [0] _)
    refine sd_if_ne (tgt := 25) hC dX1_letsThrough_18 rfl (?_ : Sd X 25 [(0, 11), (1, 16), (2, 0)] [] _) (?_ : Sd X 21 [(0, 11), (1, 16), (2, 0)] [] _)
    · exact Sd.weak (by decide) (S_25)
    · refine sd_iconst hC dX1_letsThrough_21 ⟨by decide, by decide⟩ (?_ : Sd X 22 [(0, 11), (1, 16), (2, 0)] [0] _)
      refine sd_goto (tgt := 26) hC dX1_letsThrough_22 rfl (?_ : Sd X 26 [(0, 11), (1, 16), (2, 0)] [0] _)
      exact Sd.weak (by decide) (S_26)
theorem wl_1_82 : Cond.fieldLink RX1 43 "NarrowRings$City" "gates" "I" ∈ WALL := tb1 (List.mem_of_getElem? (i := 82) rfl) rfl
theorem wl_4_54 : Cond.methodLink RX1 119 yX1_letsThrough ∈ WALL := tb4 (List.mem_of_getElem? (i := 54) rfl) rfl
theorem wl_3_162 : Cond.instanceMethod yX1_letsThrough ∈ WALL := tb3 (List.mem_of_getElem? (i := 162) rfl) rfl
theorem wl_3_163 : Cond.selects RX1 yX1_letsThrough yX1_letsThrough ∈ WALL := tb3 (List.mem_of_getElem? (i := 163) rfl) rfl
theorem wl_3_164 : Cond.code yX1_letsThrough cX1_letsThrough 3 (some .boolean) ∈ WALL := tb3 (List.mem_of_getElem? (i := 164) rfl) rfl
theorem hd_X1_someGateLets : yX1_someGateLets.cls ≠ "java/lang/invoke/MethodHandle" ∧ yX1_someGateLets.cls ≠ "java/lang/invoke/VarHandle" ∧ (parseMethodDescriptor yX1_someGateLets.desc).map (fun d => d.parameters.length) = some 2 := by decide +kernel
set_option maxRecDepth 100000 in
set_option maxHeartbeats 4000000 in
theorem M_X1_someGateLets (l : Launch) : Mt l yX1_someGateLets (Cond.code yX1_someGateLets cX1_someGateLets 4 (some .boolean) :: WALL) { frames := 3, cells := 0, slots := 0, locals := 74 } [11, 16, 0] (some 0) T_X1_someGateLets := by
  refine Mt.mk (B := E_X1_someGateLets) (by decide +kernel) (by decide) (fun _ _ _ hh => hh) ?_
  intro X Q e1 e2 e3 hC hN hT
  subst e1
  have hC : CF X cX1_someGateLets RX1 WALL := hC
  have S_33 : ∀ (k2 : tK), Sd X 2 [(0, 11), (1, 16), (2, 0), (3, 0)] [] k2 → Sd X 33 [(0, 11), (1, 16), (2, 0), (3, 0)] [] (B_X1_someGateLets_33 Q k2) := by
    intro k2 h2
    unfold B_X1_someGateLets_33
    refine sd_iinc (Γ' := [(0, 11), (1, 16), (2, 0), (3, 0)]) hC dX1_someGateLets_33 (by decide) (by rw [e2]; decide) (by decide) (?_ : Sd X 36 [(0, 11), (1, 16), (2, 0), (3, 0)] [] _)
    refine sd_goto (tgt := 2) hC dX1_someGateLets_36 rfl (?_ : Sd X 2 [(0, 11), (1, 16), (2, 0), (3, 0)] [] _)
    exact Sd.weak (by decide) h2
  have S_2 : Sd X 2 [(0, 11), (1, 16), (2, 0), (3, 0)] [] (L_X1_someGateLets_2 Q) := by
    unfold L_X1_someGateLets_2
    refine Sd.loop (fun k2 h2 => ?_)
    refine sd_iload_n hC dX1_someGateLets_2 rfl (by decide) (?_ : Sd X 3 [(0, 11), (1, 16), (2, 0), (3, 0)] [0] _)
    refine sd_aload_n hC 11 dX1_someGateLets_3 rfl (by decide) (by decide) (?_ : Sd X 4 [(0, 11), (1, 16), (2, 0), (3, 0)] [11, 0] _)
    refine sd_get hC (ci := 1) (j := 1) (C := RX1) (T := TX1) (N := 12) rfl rfl (by decide) in_X1 wl_1_82 dX1_someGateLets_4 (?_ : Sd X 7 [(0, 11), (1, 16), (2, 0), (3, 0)] [0, 0] _)
    refine sd_icmp_ge (tgt := 39) hC dX1_someGateLets_7 rfl (?_ : Sd X 39 [(0, 11), (1, 16), (2, 0), (3, 0)] [] _) (?_ : Sd X 10 [(0, 11), (1, 16), (2, 0), (3, 0)] [] _)
    · refine sd_iconst hC dX1_someGateLets_39 ⟨by decide, by decide⟩ (?_ : Sd X 40 [(0, 11), (1, 16), (2, 0), (3, 0)] [0] _)
      exact sd_zreturn hC hT dX1_someGateLets_40
    · refine sd_aload_n hC 11 dX1_someGateLets_10 rfl (by decide) (by decide) (?_ : Sd X 11 [(0, 11), (1, 16), (2, 0), (3, 0)] [11] _)
      refine sd_get hC (ci := 1) (j := 6) (C := RX1) (T := TX1) (N := 12) rfl rfl (by decide) in_X1 wl_1_101 dX1_someGateLets_11 (?_ : Sd X 14 [(0, 11), (1, 16), (2, 0), (3, 0)] [200] _)
      refine sd_iload_n hC dX1_someGateLets_14 rfl (by decide) (?_ : Sd X 15 [(0, 11), (1, 16), (2, 0), (3, 0)] [0, 200] _)
      refine sd_aaload (e := 100) hC (List.mem_of_getElem? (i := 7) rfl) rfl rfl dX1_someGateLets_15 (?_ : Sd X 16 [(0, 11), (1, 16), (2, 0), (3, 0)] [100] _)
      refine sd_iconst hC dX1_someGateLets_16 ⟨by decide, by decide⟩ (?_ : Sd X 17 [(0, 11), (1, 16), (2, 0), (3, 0)] [0, 100] _)
      refine sd_iaload hC dX1_someGateLets_17 (?_ : Sd X 18 [(0, 11), (1, 16), (2, 0), (3, 0)] [0] _)
      refine sd_iload_n hC dX1_someGateLets_18 rfl (by decide) (?_ : Sd X 19 [(0, 11), (1, 16), (2, 0), (3, 0)] [0, 0] _)
      refine sd_icmp_ne (tgt := 33) hC dX1_someGateLets_19 rfl (?_ : Sd X 33 [(0, 11), (1, 16), (2, 0), (3, 0)] [] _) (?_ : Sd X 22 [(0, 11), (1, 16), (2, 0), (3, 0)] [] _)
      · exact Sd.weak (by decide) (S_33 k2 h2)
      · refine sd_aload_n hC 11 dX1_someGateLets_22 rfl (by decide) (by decide) (?_ : Sd X 23 [(0, 11), (1, 16), (2, 0), (3, 0)] [11] _)
        refine sd_aload_n hC 16 dX1_someGateLets_23 rfl (by decide) (by decide) (?_ : Sd X 24 [(0, 11), (1, 16), (2, 0), (3, 0)] [16, 11] _)
        refine sd_iload_n hC dX1_someGateLets_24 rfl (by decide) (?_ : Sd X 25 [(0, 11), (1, 16), (2, 0), (3, 0)] [0, 16, 11] _)
        refine sd_inv0 (τ := []) (τr := [16, 0]) (ci := 1) (q := (RX1, TX1, 12)) hC WG (M_X1_letsThrough _) rfl rfl rfl rfl  rfl rfl wl_4_54 wl_3_162 wl_3_163 wl_1_2 wl_3_164 hd_X1_letsThrough (by rw [e3]; decide) (by decide) dX1_someGateLets_25 (?_ : Sd X 28 [(0, 11), (1, 16), (2, 0), (3, 0)] [0] _)
        refine sd_if_eq (tgt := 33) hC dX1_someGateLets_28 rfl (?_ : Sd X 33 [(0, 11), (1, 16), (2, 0), (3, 0)] [] _) (?_ : Sd X 31 [(0, 11), (1, 16), (2, 0), (3, 0)] [] _)
        · exact Sd.weak (by decide) (S_33 k2 h2)
        · refine sd_iconst hC dX1_someGateLets_31 ⟨by decide, by decide⟩ (?_ : Sd X 32 [(0, 11), (1, 16), (2, 0), (3, 0)] [0] _)
          exact sd_zreturn hC hT dX1_someGateLets_32
  refine (?_ : Sd X 0 [(0, 11), (1, 16), (2, 0)] [] (E_X1_someGateLets Q))
  unfold E_X1_someGateLets
  refine sd_iconst hC dX1_someGateLets_0 ⟨by decide, by decide⟩ (?_ : Sd X 1 [(0, 11), (1, 16), (2, 0)] [0] _)
  refine sd_istore_n (Γ' := [(0, 11), (1, 16), (2, 0), (3, 0)]) hC dX1_someGateLets_1 rfl (by rw [e2]; decide) (by decide) (?_ : Sd X 2 [(0, 11), (1, 16), (2, 0), (3, 0)] [] _)
  exact Sd.weak (by decide) (S_2)
theorem wl_4_45 : Cond.methodLink RX1 108 yX1_ringSuits ∈ WALL := tb4 (List.mem_of_getElem? (i := 45) rfl) rfl
theorem wl_4_47 : Cond.instanceMethod yX1_ringSuits ∈ WALL := tb4 (List.mem_of_getElem? (i := 47) rfl) rfl
theorem wp_38 : Cond.selects RX1 yX1_ringSuits yX1_ringSuits ∈ WALL := tbS (List.mem_of_getElem? (i := 38) rfl)
theorem wl_4_48 : Cond.code yX1_ringSuits cX1_ringSuits 4 (some .boolean) ∈ WALL := tb4 (List.mem_of_getElem? (i := 48) rfl) rfl
theorem wl_4_50 : Cond.methodLink RX1 112 yX1_someGateLets ∈ WALL := tb4 (List.mem_of_getElem? (i := 50) rfl) rfl
theorem wl_4_52 : Cond.instanceMethod yX1_someGateLets ∈ WALL := tb4 (List.mem_of_getElem? (i := 52) rfl) rfl
theorem wp_39 : Cond.selects RX1 yX1_someGateLets yX1_someGateLets ∈ WALL := tbS (List.mem_of_getElem? (i := 39) rfl)
theorem wl_4_53 : Cond.code yX1_someGateLets cX1_someGateLets 4 (some .boolean) ∈ WALL := tb4 (List.mem_of_getElem? (i := 53) rfl) rfl
theorem hd_X1_depthOf : yX1_depthOf.cls ≠ "java/lang/invoke/MethodHandle" ∧ yX1_depthOf.cls ≠ "java/lang/invoke/VarHandle" ∧ (parseMethodDescriptor yX1_depthOf.desc).map (fun d => d.parameters.length) = some 2 := by decide +kernel
set_option maxRecDepth 100000 in
set_option maxHeartbeats 4000000 in
theorem M_X1_depthOf (l : Launch) : Mt l yX1_depthOf (Cond.code yX1_depthOf cX1_depthOf 4 (some .int) :: WALL) { frames := 4, cells := 0, slots := 0, locals := 97 } [11, 16, 0] (some 0) T_X1_depthOf := by
  refine Mt.mk (B := E_X1_depthOf) (by decide +kernel) (by decide) (fun _ _ _ hh => hh) ?_
  intro X Q e1 e2 e3 hC hN hT
  subst e1
  have hC : CF X cX1_depthOf RX1 WALL := hC
  have S_52 : Sd X 52 [(0, 11), (1, 16), (2, 0), (3, 0)] [] (B_X1_depthOf_52 Q) := by
    unfold B_X1_depthOf_52
    refine sd_iload_n hC dX1_depthOf_52 rfl (by decide) (?_ : Sd X 53 [(0, 11), (1, 16), (2, 0), (3, 0)] [0] _)
    exact sd_ireturn hC hT dX1_depthOf_53
  have S_15 : Sd X 15 [(0, 11), (1, 16), (2, 0), (3, 0)] [] (L_X1_depthOf_15 Q) := by
    unfold L_X1_depthOf_15
    refine Sd.loop (fun k15 h15 => ?_)
    refine sd_iload_n hC dX1_depthOf_15 rfl (by decide) (?_ : Sd X 16 [(0, 11), (1, 16), (2, 0), (3, 0)] [0] _)
    refine sd_iconst hC dX1_depthOf_16 ⟨by decide, by decide⟩ (?_ : Sd X 17 [(0, 11), (1, 16), (2, 0), (3, 0)] [0, 0] _)
    refine sd_iadd hC dX1_depthOf_17 (?_ : Sd X 18 [(0, 11), (1, 16), (2, 0), (3, 0)] [0] _)
    refine sd_aload_n hC 11 dX1_depthOf_18 rfl (by decide) (by decide) (?_ : Sd X 19 [(0, 11), (1, 16), (2, 0), (3, 0)] [11, 0] _)
    refine sd_get hC (ci := 1) (j := 0) (C := RX1) (T := TX1) (N := 12) rfl rfl (by decide) in_X1 wl_1_77 dX1_depthOf_19 (?_ : Sd X 22 [(0, 11), (1, 16), (2, 0), (3, 0)] [0, 0] _)
    refine sd_icmp_ge (tgt := 52) hC dX1_depthOf_22 rfl (?_ : Sd X 52 [(0, 11), (1, 16), (2, 0), (3, 0)] [] _) (?_ : Sd X 25 [(0, 11), (1, 16), (2, 0), (3, 0)] [] _)
    · exact Sd.weak (by decide) (S_52)
    · refine sd_aload_n hC 11 dX1_depthOf_25 rfl (by decide) (by decide) (?_ : Sd X 26 [(0, 11), (1, 16), (2, 0), (3, 0)] [11] _)
      refine sd_aload_n hC 16 dX1_depthOf_26 rfl (by decide) (by decide) (?_ : Sd X 27 [(0, 11), (1, 16), (2, 0), (3, 0)] [16, 11] _)
      refine sd_iload_n hC dX1_depthOf_27 rfl (by decide) (?_ : Sd X 28 [(0, 11), (1, 16), (2, 0), (3, 0)] [0, 16, 11] _)
      refine sd_iconst hC dX1_depthOf_28 ⟨by decide, by decide⟩ (?_ : Sd X 29 [(0, 11), (1, 16), (2, 0), (3, 0)] [0, 0, 16, 11] _)
      refine sd_iadd hC dX1_depthOf_29 (?_ : Sd X 30 [(0, 11), (1, 16), (2, 0), (3, 0)] [0, 16, 11] _)
      refine sd_iload_n hC dX1_depthOf_30 rfl (by decide) (?_ : Sd X 31 [(0, 11), (1, 16), (2, 0), (3, 0)] [0, 0, 16, 11] _)
      refine sd_inv0 (τ := []) (τr := [16, 0, 0]) (ci := 1) (q := (RX1, TX1, 12)) hC WG (M_X1_ringSuits _) rfl rfl rfl rfl  rfl rfl wl_4_45 wl_4_47 wp_38 wl_1_2 wl_4_48 hd_X1_ringSuits (by rw [e3]; decide) (by decide) dX1_depthOf_31 (?_ : Sd X 34 [(0, 11), (1, 16), (2, 0), (3, 0)] [0] _)
      refine sd_if_eq (tgt := 52) hC dX1_depthOf_34 rfl (?_ : Sd X 52 [(0, 11), (1, 16), (2, 0), (3, 0)] [] _) (?_ : Sd X 37 [(0, 11), (1, 16), (2, 0), (3, 0)] [] _)
      · exact Sd.weak (by decide) (S_52)
      · refine sd_aload_n hC 11 dX1_depthOf_37 rfl (by decide) (by decide) (?_ : Sd X 38 [(0, 11), (1, 16), (2, 0), (3, 0)] [11] _)
        refine sd_aload_n hC 16 dX1_depthOf_38 rfl (by decide) (by decide) (?_ : Sd X 39 [(0, 11), (1, 16), (2, 0), (3, 0)] [16, 11] _)
        refine sd_iload_n hC dX1_depthOf_39 rfl (by decide) (?_ : Sd X 40 [(0, 11), (1, 16), (2, 0), (3, 0)] [0, 16, 11] _)
        refine sd_inv0 (τ := []) (τr := [16, 0]) (ci := 1) (q := (RX1, TX1, 12)) hC WG (M_X1_someGateLets _) rfl rfl rfl rfl  rfl rfl wl_4_50 wl_4_52 wp_39 wl_1_2 wl_4_53 hd_X1_someGateLets (by rw [e3]; decide) (by decide) dX1_depthOf_40 (?_ : Sd X 43 [(0, 11), (1, 16), (2, 0), (3, 0)] [0] _)
        refine sd_if_eq (tgt := 52) hC dX1_depthOf_43 rfl (?_ : Sd X 52 [(0, 11), (1, 16), (2, 0), (3, 0)] [] _) (?_ : Sd X 46 [(0, 11), (1, 16), (2, 0), (3, 0)] [] _)
        · exact Sd.weak (by decide) (S_52)
        · refine sd_iinc (Γ' := [(0, 11), (1, 16), (2, 0), (3, 0)]) hC dX1_depthOf_46 (by decide) (by rw [e2]; decide) (by decide) (?_ : Sd X 49 [(0, 11), (1, 16), (2, 0), (3, 0)] [] _)
          refine sd_goto (tgt := 15) hC dX1_depthOf_49 rfl (?_ : Sd X 15 [(0, 11), (1, 16), (2, 0), (3, 0)] [] _)
          exact Sd.weak (by decide) h15
  refine (?_ : Sd X 0 [(0, 11), (1, 16), (2, 0)] [] (E_X1_depthOf Q))
  unfold E_X1_depthOf
  refine sd_aload_n hC 11 dX1_depthOf_0 rfl (by decide) (by decide) (?_ : Sd X 1 [(0, 11), (1, 16), (2, 0)] [11] _)
  refine sd_aload_n hC 16 dX1_depthOf_1 rfl (by decide) (by decide) (?_ : Sd X 2 [(0, 11), (1, 16), (2, 0)] [16, 11] _)
  refine sd_iconst hC dX1_depthOf_2 ⟨by decide, by decide⟩ (?_ : Sd X 3 [(0, 11), (1, 16), (2, 0)] [0, 16, 11] _)
  refine sd_iload_n hC dX1_depthOf_3 rfl (by decide) (?_ : Sd X 4 [(0, 11), (1, 16), (2, 0)] [0, 0, 16, 11] _)
  refine sd_inv0 (τ := []) (τr := [16, 0, 0]) (ci := 1) (q := (RX1, TX1, 12)) hC WG (M_X1_ringSuits _) rfl rfl rfl rfl  rfl rfl wl_4_45 wl_4_47 wp_38 wl_1_2 wl_4_48 hd_X1_ringSuits (by rw [e3]; decide) (by decide) dX1_depthOf_4 (?_ : Sd X 7 [(0, 11), (1, 16), (2, 0)] [0] _)
  refine sd_if_ne (tgt := 13) hC dX1_depthOf_7 rfl (?_ : Sd X 13 [(0, 11), (1, 16), (2, 0)] [] _) (?_ : Sd X 10 [(0, 11), (1, 16), (2, 0)] [] _)
  · refine sd_iconst hC dX1_depthOf_13 ⟨by decide, by decide⟩ (?_ : Sd X 14 [(0, 11), (1, 16), (2, 0)] [0] _)
    refine sd_istore_n (Γ' := [(0, 11), (1, 16), (2, 0), (3, 0)]) hC dX1_depthOf_14 rfl (by rw [e2]; decide) (by decide) (?_ : Sd X 15 [(0, 11), (1, 16), (2, 0), (3, 0)] [] _)
    exact Sd.weak (by decide) (S_15)
  · refine sd_bipush hC dX1_depthOf_10 (by decide) (?_ : Sd X 12 [(0, 11), (1, 16), (2, 0)] [0] _)
    exact sd_ireturn hC hT dX1_depthOf_12
theorem hd_J7_fill_53178 : yJ7_fill_53178.cls ≠ "java/lang/invoke/MethodHandle" ∧ yJ7_fill_53178.cls ≠ "java/lang/invoke/VarHandle" ∧ (parseMethodDescriptor yJ7_fill_53178.desc).map (fun d => d.parameters.length) = some 2 := by decide +kernel
set_option maxRecDepth 100000 in
set_option maxHeartbeats 4000000 in
theorem M_J7_fill_53178 (l : Launch) : Mt l yJ7_fill_53178 (Cond.code yJ7_fill_53178 cJ7_fill_53178 4 none :: WALL) { frames := 0, cells := 0, slots := 0, locals := 0 } [100, 0] none T_J7_fill_53178 := by
  refine Mt.mk (B := E_J7_fill_53178) (by decide +kernel) (by decide) (fun _ _ _ hh => hh) ?_
  intro X Q e1 e2 e3 hC hN hT
  subst e1
  have hC : CF X cJ7_fill_53178 RJ7 WALL := hC
  have S_5 : Sd X 5 [(0, 100), (1, 0), (2, 0), (3, 0)] [] (L_J7_fill_53178_5 Q) := by
    unfold L_J7_fill_53178_5
    refine Sd.loop (fun k5 h5 => ?_)
    refine sd_iload_n hC dJ7_fill_53178_5 rfl (by decide) (?_ : Sd X 6 [(0, 100), (1, 0), (2, 0), (3, 0)] [0] _)
    refine sd_iload_n hC dJ7_fill_53178_6 rfl (by decide) (?_ : Sd X 7 [(0, 100), (1, 0), (2, 0), (3, 0)] [0, 0] _)
    refine sd_icmp_ge (tgt := 20) hC dJ7_fill_53178_7 rfl (?_ : Sd X 20 [(0, 100), (1, 0), (2, 0), (3, 0)] [] _) (?_ : Sd X 10 [(0, 100), (1, 0), (2, 0), (3, 0)] [] _)
    · exact sd_return hC hT dJ7_fill_53178_20
    · refine sd_aload_n hC 100 dJ7_fill_53178_10 rfl (by decide) (by decide) (?_ : Sd X 11 [(0, 100), (1, 0), (2, 0), (3, 0)] [100] _)
      refine sd_iload_n hC dJ7_fill_53178_11 rfl (by decide) (?_ : Sd X 12 [(0, 100), (1, 0), (2, 0), (3, 0)] [0, 100] _)
      refine sd_iload_n hC dJ7_fill_53178_12 rfl (by decide) (?_ : Sd X 13 [(0, 100), (1, 0), (2, 0), (3, 0)] [0, 0, 100] _)
      refine sd_iastore hC dJ7_fill_53178_13 (?_ : Sd X 14 [(0, 100), (1, 0), (2, 0), (3, 0)] [] _)
      refine sd_iinc (Γ' := [(0, 100), (1, 0), (2, 0), (3, 0)]) hC dJ7_fill_53178_14 (by decide) (by rw [e2]; decide) (by decide) (?_ : Sd X 17 [(0, 100), (1, 0), (2, 0), (3, 0)] [] _)
      refine sd_goto (tgt := 5) hC dJ7_fill_53178_17 rfl (?_ : Sd X 5 [(0, 100), (1, 0), (2, 0), (3, 0)] [] _)
      exact Sd.weak (by decide) h5
  refine (?_ : Sd X 0 [(0, 100), (1, 0)] [] (E_J7_fill_53178 Q))
  unfold E_J7_fill_53178
  refine sd_iconst hC dJ7_fill_53178_0 ⟨by decide, by decide⟩ (?_ : Sd X 1 [(0, 100), (1, 0)] [0] _)
  refine sd_istore_n (Γ' := [(0, 100), (1, 0), (2, 0)]) hC dJ7_fill_53178_1 rfl (by rw [e2]; decide) (by decide) (?_ : Sd X 2 [(0, 100), (1, 0), (2, 0)] [] _)
  refine sd_aload_n hC 100 dJ7_fill_53178_2 rfl (by decide) (by decide) (?_ : Sd X 3 [(0, 100), (1, 0), (2, 0)] [100] _)
  refine sd_alen (e := 0) hC (List.mem_of_getElem? (i := 0) rfl) dJ7_fill_53178_3 (?_ : Sd X 4 [(0, 100), (1, 0), (2, 0)] [0] _)
  refine sd_istore_n (Γ' := [(0, 100), (1, 0), (2, 0), (3, 0)]) hC dJ7_fill_53178_4 rfl (by rw [e2]; decide) (by decide) (?_ : Sd X 5 [(0, 100), (1, 0), (2, 0), (3, 0)] [] _)
  exact Sd.weak (by decide) (S_5)
theorem wl_1_92 : Cond.fieldLink RX1 49 "NarrowRings$City" "goods" "I" ∈ WALL := tb1 (List.mem_of_getElem? (i := 92) rfl) rfl
theorem wl_1_95 : Cond.fieldLink RX1 52 "NarrowRings$City" "orders" "I" ∈ WALL := tb1 (List.mem_of_getElem? (i := 95) rfl) rfl
theorem wl_2_187 : Cond.methodLink RX1 55 yJ7_fill_53178 ∈ WALL := tb2 (List.mem_of_getElem? (i := 187) rfl) rfl
theorem wl_2_188 : Cond.static yJ7_fill_53178 ∈ WALL := tb2 (List.mem_of_getElem? (i := 188) rfl) rfl
theorem wl_1_11 : Cond.initialized RJ7 ∈ WALL := tb1 (List.mem_of_getElem? (i := 11) rfl) rfl
theorem wl_2_189 : Cond.code yJ7_fill_53178 cJ7_fill_53178 4 none ∈ WALL := tb2 (List.mem_of_getElem? (i := 189) rfl) rfl
theorem hd_X1_empty : yX1_empty.cls ≠ "java/lang/invoke/MethodHandle" ∧ yX1_empty.cls ≠ "java/lang/invoke/VarHandle" ∧ (parseMethodDescriptor yX1_empty.desc).map (fun d => d.parameters.length) = some 0 := by decide +kernel
set_option maxRecDepth 100000 in
set_option maxHeartbeats 4000000 in
theorem M_X1_empty (l : Launch) : Mt l yX1_empty (Cond.code yX1_empty cX1_empty 2 none :: WALL) { frames := 1, cells := 0, slots := 0, locals := 23 } [11] none T_X1_empty := by
  refine Mt.mk (B := E_X1_empty) (by decide +kernel) (by decide) (fun _ _ _ hh => hh) ?_
  intro X Q e1 e2 e3 hC hN hT
  subst e1
  have hC : CF X cX1_empty RX1 WALL := hC
  have S_27 : Sd X 27 [(0, 11), (1, 0)] [] (L_X1_empty_27 Q) := by
    unfold L_X1_empty_27
    refine Sd.loop (fun k27 h27 => ?_)
    refine sd_iload_n hC dX1_empty_27 rfl (by decide) (?_ : Sd X 28 [(0, 11), (1, 0)] [0] _)
    refine sd_bipush hC dX1_empty_28 (by decide) (?_ : Sd X 30 [(0, 11), (1, 0)] [0, 0] _)
    refine sd_icmp_ge (tgt := 49) hC dX1_empty_30 rfl (?_ : Sd X 49 [(0, 11), (1, 0)] [] _) (?_ : Sd X 33 [(0, 11), (1, 0)] [] _)
    · exact sd_return hC hT dX1_empty_49
    · refine sd_aload_n hC 11 dX1_empty_33 rfl (by decide) (by decide) (?_ : Sd X 34 [(0, 11), (1, 0)] [11] _)
      refine sd_get hC (ci := 1) (j := 8) (C := RX1) (T := TX1) (N := 12) rfl rfl (by decide) in_X1 wl_1_110 dX1_empty_34 (?_ : Sd X 37 [(0, 11), (1, 0)] [200] _)
      refine sd_iload_n hC dX1_empty_37 rfl (by decide) (?_ : Sd X 38 [(0, 11), (1, 0)] [0, 200] _)
      refine sd_aaload (e := 100) hC (List.mem_of_getElem? (i := 7) rfl) rfl rfl dX1_empty_38 (?_ : Sd X 39 [(0, 11), (1, 0)] [100] _)
      refine sd_iconst hC dX1_empty_39 ⟨by decide, by decide⟩ (?_ : Sd X 40 [(0, 11), (1, 0)] [0, 100] _)
      refine sd_invsv (τ := []) (τs := [100, 0]) hC false "" WG (M_J7_fill_53178 _) rfl rfl rfl rfl wl_2_187 wl_2_188 wl_1_11 wl_2_189 hd_J7_fill_53178 (by rw [e3]; decide) (by decide) dX1_empty_40 (?_ : Sd X 43 [(0, 11), (1, 0)] [] _)
      refine sd_iinc (Γ' := [(0, 11), (1, 0)]) hC dX1_empty_43 (by decide) (by rw [e2]; decide) (by decide) (?_ : Sd X 46 [(0, 11), (1, 0)] [] _)
      refine sd_goto (tgt := 27) hC dX1_empty_46 rfl (?_ : Sd X 27 [(0, 11), (1, 0)] [] _)
      exact Sd.weak (by decide) h27
  refine (?_ : Sd X 0 [(0, 11)] [] (E_X1_empty Q))
  unfold E_X1_empty
  refine sd_aload_n hC 11 dX1_empty_0 rfl (by decide) (by decide) (?_ : Sd X 1 [(0, 11)] [11] _)
  refine sd_iconst hC dX1_empty_1 ⟨by decide, by decide⟩ (?_ : Sd X 2 [(0, 11)] [0, 11] _)
  refine sd_put hC (ci := 1) (j := 0) (C := RX1) (T := TX1) (N := 12) tyX1 tyX1_ok nmX1 rfl rfl (by decide) in_X1 rfl rfl wl_1_77 dX1_empty_2 (?_ : Sd X 5 [(0, 11)] [] _)
  refine sd_aload_n hC 11 dX1_empty_5 rfl (by decide) (by decide) (?_ : Sd X 6 [(0, 11)] [11] _)
  refine sd_iconst hC dX1_empty_6 ⟨by decide, by decide⟩ (?_ : Sd X 7 [(0, 11)] [0, 11] _)
  refine sd_put hC (ci := 1) (j := 1) (C := RX1) (T := TX1) (N := 12) tyX1 tyX1_ok nmX1 rfl rfl (by decide) in_X1 rfl rfl wl_1_82 dX1_empty_7 (?_ : Sd X 10 [(0, 11)] [] _)
  refine sd_aload_n hC 11 dX1_empty_10 rfl (by decide) (by decide) (?_ : Sd X 11 [(0, 11)] [11] _)
  refine sd_iconst hC dX1_empty_11 ⟨by decide, by decide⟩ (?_ : Sd X 12 [(0, 11)] [0, 11] _)
  refine sd_put hC (ci := 1) (j := 2) (C := RX1) (T := TX1) (N := 12) tyX1 tyX1_ok nmX1 rfl rfl (by decide) in_X1 rfl rfl wl_1_88 dX1_empty_12 (?_ : Sd X 15 [(0, 11)] [] _)
  refine sd_aload_n hC 11 dX1_empty_15 rfl (by decide) (by decide) (?_ : Sd X 16 [(0, 11)] [11] _)
  refine sd_iconst hC dX1_empty_16 ⟨by decide, by decide⟩ (?_ : Sd X 17 [(0, 11)] [0, 11] _)
  refine sd_put hC (ci := 1) (j := 3) (C := RX1) (T := TX1) (N := 12) tyX1 tyX1_ok nmX1 rfl rfl (by decide) in_X1 rfl rfl wl_1_92 dX1_empty_17 (?_ : Sd X 20 [(0, 11)] [] _)
  refine sd_aload_n hC 11 dX1_empty_20 rfl (by decide) (by decide) (?_ : Sd X 21 [(0, 11)] [11] _)
  refine sd_iconst hC dX1_empty_21 ⟨by decide, by decide⟩ (?_ : Sd X 22 [(0, 11)] [0, 11] _)
  refine sd_put hC (ci := 1) (j := 4) (C := RX1) (T := TX1) (N := 12) tyX1 tyX1_ok nmX1 rfl rfl (by decide) in_X1 rfl rfl wl_1_95 dX1_empty_22 (?_ : Sd X 25 [(0, 11)] [] _)
  refine sd_iconst hC dX1_empty_25 ⟨by decide, by decide⟩ (?_ : Sd X 26 [(0, 11)] [0] _)
  refine sd_istore_n (Γ' := [(0, 11), (1, 0)]) hC dX1_empty_26 rfl (by rw [e2]; decide) (by decide) (?_ : Sd X 27 [(0, 11), (1, 0)] [] _)
  exact Sd.weak (by decide) (S_27)
theorem wl_1_45 : Cond.methodLink RX6 1 Lib.objectInit ∈ WALL := tb1 (List.mem_of_getElem? (i := 45) rfl) rfl
theorem wl_1_46 : Cond.fieldLink RX6 9 "NarrowRings$Thing" "length" "[I" ∈ WALL := tb1 (List.mem_of_getElem? (i := 46) rfl) rfl
theorem wl_1_50 : Cond.fieldLink RX6 16 "NarrowRings$Thing" "high" "[I" ∈ WALL := tb1 (List.mem_of_getElem? (i := 50) rfl) rfl
theorem hd_X6_init : yX6_init.cls ≠ "java/lang/invoke/MethodHandle" ∧ yX6_init.cls ≠ "java/lang/invoke/VarHandle" ∧ (parseMethodDescriptor yX6_init.desc).map (fun d => d.parameters.length) = some 0 := by decide +kernel
set_option maxRecDepth 100000 in
set_option maxHeartbeats 4000000 in
theorem M_X6_init (l : Launch) : Mt l yX6_init (Cond.code yX6_init cX6_init 1 none :: WALL) { frames := 1, cells := 3, slots := 9, locals := 20 } [16] none T_X6_init := by
  refine Mt.mk (B := E_X6_init) (by decide +kernel) (by decide) (fun _ _ _ hh => hh) ?_
  intro X Q e1 e2 e3 hC hN hT
  subst e1
  have hC : CF X cX6_init RX6 WALL := hC
  refine (?_ : Sd X 0 [(0, 16)] [] (E_X6_init Q))
  unfold E_X6_init
  refine sd_aload_n hC 16 dX6_init_0 rfl (by decide) (by decide) (?_ : Sd X 1 [(0, 16)] [16] _)
  refine sd_objInit hC (by decide) wl_1_45 wl_1_29 wl_1_30 (by rw [e3]; decide) (by decide) dX6_init_1 (?_ : Sd X 4 [(0, 16)] [] _)
  refine sd_aload_n hC 16 dX6_init_4 rfl (by decide) (by decide) (?_ : Sd X 5 [(0, 16)] [16] _)
  refine sd_iconst hC dX6_init_5 ⟨by decide, by decide⟩ (?_ : Sd X 6 [(0, 16)] [0, 16] _)
  refine sd_newa hC (e := 0) (List.mem_of_getElem? (i := 0) rfl) (fun C z => by cases z) rfl (by decide) wl_1_76 (by rw [e3]) (by rw [e3]) dX6_init_6 (?_ : Sd X 8 [(0, 16)] [100, 16] _)
  refine sd_putF hC (ci := 6) (j := 0) (C := RX6) (T := TX6) (N := 7) tyX6 tyX6_ok nmX6 rfl rfl (by decide) in_X6 rfl rfl rfl hN wl_1_46 dX6_init_8 (?_ : Sd X 11 [(0, 16)] [] _)
  refine sd_aload_n hC 16 dX6_init_11 rfl (by decide) (by decide) (?_ : Sd X 12 [(0, 16)] [16] _)
  refine sd_iconst hC dX6_init_12 ⟨by decide, by decide⟩ (?_ : Sd X 13 [(0, 16)] [0, 16] _)
  refine sd_newa hC (e := 0) (List.mem_of_getElem? (i := 0) rfl) (fun C z => by cases z) rfl (by decide) wl_1_76 (by rw [e3]) (by rw [e3]) dX6_init_13 (?_ : Sd X 15 [(0, 16)] [100, 16] _)
  refine sd_putF hC (ci := 6) (j := 1) (C := RX6) (T := TX6) (N := 7) tyX6 tyX6_ok nmX6 rfl rfl (by decide) in_X6 rfl rfl rfl hN wl_1_48 dX6_init_15 (?_ : Sd X 18 [(0, 16)] [] _)
  refine sd_aload_n hC 16 dX6_init_18 rfl (by decide) (by decide) (?_ : Sd X 19 [(0, 16)] [16] _)
  refine sd_iconst hC dX6_init_19 ⟨by decide, by decide⟩ (?_ : Sd X 20 [(0, 16)] [0, 16] _)
  refine sd_newa hC (e := 0) (List.mem_of_getElem? (i := 0) rfl) (fun C z => by cases z) rfl (by decide) wl_1_76 (by rw [e3]) (by rw [e3]) dX6_init_20 (?_ : Sd X 22 [(0, 16)] [100, 16] _)
  refine sd_putF hC (ci := 6) (j := 2) (C := RX6) (T := TX6) (N := 7) tyX6 tyX6_ok nmX6 rfl rfl (by decide) in_X6 rfl rfl rfl hN wl_1_50 dX6_init_22 (?_ : Sd X 25 [(0, 16)] [] _)
  exact sd_return hC hT dX6_init_25
theorem wl_1_36 : Cond.methodLink RX1 3 Lib.objectInit ∈ WALL := tb1 (List.mem_of_getElem? (i := 36) rfl) rfl
theorem wl_1_37 : Cond.classLink RX1 15 "[[I" ∈ WALL := tb1 (List.mem_of_getElem? (i := 37) rfl) rfl
theorem wl_1_112 : Cond.fieldLink RX1 26 "NarrowRings$City" "order" "[[I" ∈ WALL := tb1 (List.mem_of_getElem? (i := 112) rfl) rfl
theorem wl_1_39 : Cond.classLink RX1 29 RX6 ∈ WALL := tb1 (List.mem_of_getElem? (i := 39) rfl) rfl
theorem wl_1_116 : Cond.fieldLink RX1 31 "NarrowRings$City" "whole" "[LNarrowRings$Thing;" ∈ WALL := tb1 (List.mem_of_getElem? (i := 116) rfl) rfl
theorem wl_1_41 : Cond.instantiable RX6 7 ∈ WALL := tb1 (List.mem_of_getElem? (i := 41) rfl) rfl
theorem wl_1_42 : Cond.methodLink RX1 38 yX6_init ∈ WALL := tb1 (List.mem_of_getElem? (i := 42) rfl) rfl
theorem wl_1_43 : Cond.instanceMethod yX6_init ∈ WALL := tb1 (List.mem_of_getElem? (i := 43) rfl) rfl
theorem wl_1_44 : Cond.code yX6_init cX6_init 1 none ∈ WALL := tb1 (List.mem_of_getElem? (i := 44) rfl) rfl
theorem hd_X1_init : yX1_init.cls ≠ "java/lang/invoke/MethodHandle" ∧ yX1_init.cls ≠ "java/lang/invoke/VarHandle" ∧ (parseMethodDescriptor yX1_init.desc).map (fun d => d.parameters.length) = some 0 := by decide +kernel
set_option maxRecDepth 100000 in
set_option maxHeartbeats 4000000 in
theorem M_X1_init (l : Launch) : Mt l yX1_init (Cond.code yX1_init cX1_init 2 none :: WALL) { frames := 2, cells := 104, slots := 470, locals := 40 } [11] none T_X1_init := by
  refine Mt.mk (B := E_X1_init) (by decide +kernel) (by decide) (fun _ _ _ hh => hh) ?_
  intro X Q e1 e2 e3 hC hN hT
  subst e1
  have hC : CF X cX1_init RX1 WALL := hC
  have S_78 : Sd X 78 [(0, 11), (1, 0)] [] (L_X1_init_78 Q) := by
    unfold L_X1_init_78
    refine Sd.loop (fun k78 h78 => ?_)
    refine sd_iload_n hC dX1_init_78 rfl (by decide) (?_ : Sd X 79 [(0, 11), (1, 0)] [0] _)
    refine sd_bipush hC dX1_init_79 (by decide) (?_ : Sd X 81 [(0, 11), (1, 0)] [0, 0] _)
    refine sd_icmp_ge (tgt := 116) hC dX1_init_81 rfl (?_ : Sd X 116 [(0, 11), (1, 0)] [] _) (?_ : Sd X 84 [(0, 11), (1, 0)] [] _)
    · exact sd_return hC hT dX1_init_116
    · refine sd_aload_n hC 11 dX1_init_84 rfl (by decide) (by decide) (?_ : Sd X 85 [(0, 11), (1, 0)] [11] _)
      refine sd_get hC (ci := 1) (j := 10) (C := RX1) (T := TX1) (N := 12) rfl rfl (by decide) in_X1 wl_1_116 dX1_init_85 (?_ : Sd X 88 [(0, 11), (1, 0)] [116] _)
      refine sd_iload_n hC dX1_init_88 rfl (by decide) (?_ : Sd X 89 [(0, 11), (1, 0)] [0, 116] _)
      refine sd_new hC (ci := 6) (C := RX6) (T := TX6) (N := 7) tyX6 tyX6_ok (by decide) rfl in_X6 wl_1_39 wl_1_41 wl_1_3 (by rw [e3]) (by rw [e3]) dX1_init_89 (?_ : Sd X 92 [(0, 11), (1, 0)] [16, 0, 116] _)
      refine sd_dup hC (by decide) dX1_init_92 (?_ : Sd X 93 [(0, 11), (1, 0)] [16, 16, 0, 116] _)
      refine sd_invi (τ := [16, 0, 116]) (τr := []) (ci := 6) hC WG (M_X6_init _) rfl rfl rfl rfl (by rw [e3]) (by rw [e3]) rfl wl_1_42 wl_1_43 wl_1_3 wl_1_44 hd_X6_init (by rw [e3]; decide) (by decide) dX1_init_93 (?_ : Sd X 96 [(0, 11), (1, 0)] [16, 0, 116] _)
      refine sd_aastore hC (ci := 6) (q := (RX6, TX6, 7)) (List.mem_of_getElem? (i := 5) rfl) rfl dX1_init_96 (?_ : Sd X 97 [(0, 11), (1, 0)] [] _)
      refine sd_aload_n hC 11 dX1_init_97 rfl (by decide) (by decide) (?_ : Sd X 98 [(0, 11), (1, 0)] [11] _)
      refine sd_get hC (ci := 1) (j := 11) (C := RX1) (T := TX1) (N := 12) rfl rfl (by decide) in_X1 wl_1_119 dX1_init_98 (?_ : Sd X 101 [(0, 11), (1, 0)] [116] _)
      refine sd_iload_n hC dX1_init_101 rfl (by decide) (?_ : Sd X 102 [(0, 11), (1, 0)] [0, 116] _)
      refine sd_new hC (ci := 6) (C := RX6) (T := TX6) (N := 7) tyX6 tyX6_ok (by decide) rfl in_X6 wl_1_39 wl_1_41 wl_1_3 (by rw [e3]) (by rw [e3]) dX1_init_102 (?_ : Sd X 105 [(0, 11), (1, 0)] [16, 0, 116] _)
      refine sd_dup hC (by decide) dX1_init_105 (?_ : Sd X 106 [(0, 11), (1, 0)] [16, 16, 0, 116] _)
      refine sd_invi (τ := [16, 0, 116]) (τr := []) (ci := 6) hC WG (M_X6_init _) rfl rfl rfl rfl (by rw [e3]) (by rw [e3]) rfl wl_1_42 wl_1_43 wl_1_3 wl_1_44 hd_X6_init (by rw [e3]; decide) (by decide) dX1_init_106 (?_ : Sd X 109 [(0, 11), (1, 0)] [16, 0, 116] _)
      refine sd_aastore hC (ci := 6) (q := (RX6, TX6, 7)) (List.mem_of_getElem? (i := 5) rfl) rfl dX1_init_109 (?_ : Sd X 110 [(0, 11), (1, 0)] [] _)
      refine sd_iinc (Γ' := [(0, 11), (1, 0)]) hC dX1_init_110 (by decide) (by rw [e2]; decide) (by decide) (?_ : Sd X 113 [(0, 11), (1, 0)] [] _)
      refine sd_goto (tgt := 78) hC dX1_init_113 rfl (?_ : Sd X 78 [(0, 11), (1, 0)] [] _)
      exact Sd.weak (by decide) h78
  refine (?_ : Sd X 0 [(0, 11)] [] (E_X1_init Q))
  unfold E_X1_init
  refine sd_aload_n hC 11 dX1_init_0 rfl (by decide) (by decide) (?_ : Sd X 1 [(0, 11)] [11] _)
  refine sd_objInit hC (by decide) wl_1_36 wl_1_29 wl_1_30 (by rw [e3]; decide) (by decide) dX1_init_1 (?_ : Sd X 4 [(0, 11)] [] _)
  refine sd_aload_n hC 11 dX1_init_4 rfl (by decide) (by decide) (?_ : Sd X 5 [(0, 11)] [11] _)
  refine sd_bipush hC dX1_init_5 (by decide) (?_ : Sd X 7 [(0, 11)] [0, 11] _)
  refine sd_newa hC (e := 0) (List.mem_of_getElem? (i := 0) rfl) (fun C z => by cases z) rfl (by decide) wl_1_76 (by rw [e3]) (by rw [e3]) dX1_init_7 (?_ : Sd X 9 [(0, 11)] [100, 11] _)
  refine sd_putF hC (ci := 1) (j := 5) (C := RX1) (T := TX1) (N := 12) tyX1 tyX1_ok nmX1 rfl rfl (by decide) in_X1 rfl rfl rfl hN wl_1_99 dX1_init_9 (?_ : Sd X 12 [(0, 11)] [] _)
  refine sd_aload_n hC 11 dX1_init_12 rfl (by decide) (by decide) (?_ : Sd X 13 [(0, 11)] [11] _)
  refine sd_bipush hC dX1_init_13 (by decide) (?_ : Sd X 15 [(0, 11)] [0, 11] _)
  refine sd_bipush hC dX1_init_15 (by decide) (?_ : Sd X 17 [(0, 11)] [0, 0, 11] _)
  refine sd_mna hC wl_1_37 wl_1_76 (by rw [e3]) (by rw [e3]) dX1_init_17 (?_ : Sd X 21 [(0, 11)] [200, 11] _)
  refine sd_putF hC (ci := 1) (j := 6) (C := RX1) (T := TX1) (N := 12) tyX1 tyX1_ok nmX1 rfl rfl (by decide) in_X1 rfl rfl rfl hN wl_1_101 dX1_init_21 (?_ : Sd X 24 [(0, 11)] [] _)
  refine sd_aload_n hC 11 dX1_init_24 rfl (by decide) (by decide) (?_ : Sd X 25 [(0, 11)] [11] _)
  refine sd_bipush hC dX1_init_25 (by decide) (?_ : Sd X 27 [(0, 11)] [0, 11] _)
  refine sd_iconst hC dX1_init_27 ⟨by decide, by decide⟩ (?_ : Sd X 28 [(0, 11)] [0, 0, 11] _)
  refine sd_mna hC wl_1_37 wl_1_76 (by rw [e3]) (by rw [e3]) dX1_init_28 (?_ : Sd X 32 [(0, 11)] [200, 11] _)
  refine sd_putF hC (ci := 1) (j := 7) (C := RX1) (T := TX1) (N := 12) tyX1 tyX1_ok nmX1 rfl rfl (by decide) in_X1 rfl rfl rfl hN wl_1_108 dX1_init_32 (?_ : Sd X 35 [(0, 11)] [] _)
  refine sd_aload_n hC 11 dX1_init_35 rfl (by decide) (by decide) (?_ : Sd X 36 [(0, 11)] [11] _)
  refine sd_bipush hC dX1_init_36 (by decide) (?_ : Sd X 38 [(0, 11)] [0, 11] _)
  refine sd_iconst hC dX1_init_38 ⟨by decide, by decide⟩ (?_ : Sd X 39 [(0, 11)] [0, 0, 11] _)
  refine sd_mna hC wl_1_37 wl_1_76 (by rw [e3]) (by rw [e3]) dX1_init_39 (?_ : Sd X 43 [(0, 11)] [200, 11] _)
  refine sd_putF hC (ci := 1) (j := 8) (C := RX1) (T := TX1) (N := 12) tyX1 tyX1_ok nmX1 rfl rfl (by decide) in_X1 rfl rfl rfl hN wl_1_110 dX1_init_43 (?_ : Sd X 46 [(0, 11)] [] _)
  refine sd_aload_n hC 11 dX1_init_46 rfl (by decide) (by decide) (?_ : Sd X 47 [(0, 11)] [11] _)
  refine sd_bipush hC dX1_init_47 (by decide) (?_ : Sd X 49 [(0, 11)] [0, 11] _)
  refine sd_bipush hC dX1_init_49 (by decide) (?_ : Sd X 51 [(0, 11)] [0, 0, 11] _)
  refine sd_mna hC wl_1_37 wl_1_76 (by rw [e3]) (by rw [e3]) dX1_init_51 (?_ : Sd X 55 [(0, 11)] [200, 11] _)
  refine sd_putF hC (ci := 1) (j := 9) (C := RX1) (T := TX1) (N := 12) tyX1 tyX1_ok nmX1 rfl rfl (by decide) in_X1 rfl rfl rfl hN wl_1_112 dX1_init_55 (?_ : Sd X 58 [(0, 11)] [] _)
  refine sd_aload_n hC 11 dX1_init_58 rfl (by decide) (by decide) (?_ : Sd X 59 [(0, 11)] [11] _)
  refine sd_bipush hC dX1_init_59 (by decide) (?_ : Sd X 61 [(0, 11)] [0, 11] _)
  refine sd_anew hC (C := RX6) (e := 16) (List.mem_of_getElem? (i := 5) rfl) rfl (by decide) wl_1_39 (by rw [e3]) (by rw [e3]) dX1_init_61 (?_ : Sd X 64 [(0, 11)] [116, 11] _)
  refine sd_putF hC (ci := 1) (j := 10) (C := RX1) (T := TX1) (N := 12) tyX1 tyX1_ok nmX1 rfl rfl (by decide) in_X1 rfl rfl rfl hN wl_1_116 dX1_init_64 (?_ : Sd X 67 [(0, 11)] [] _)
  refine sd_aload_n hC 11 dX1_init_67 rfl (by decide) (by decide) (?_ : Sd X 68 [(0, 11)] [11] _)
  refine sd_bipush hC dX1_init_68 (by decide) (?_ : Sd X 70 [(0, 11)] [0, 11] _)
  refine sd_anew hC (C := RX6) (e := 16) (List.mem_of_getElem? (i := 5) rfl) rfl (by decide) wl_1_39 (by rw [e3]) (by rw [e3]) dX1_init_70 (?_ : Sd X 73 [(0, 11)] [116, 11] _)
  refine sd_putF hC (ci := 1) (j := 11) (C := RX1) (T := TX1) (N := 12) tyX1 tyX1_ok nmX1 rfl rfl (by decide) in_X1 rfl rfl rfl hN wl_1_119 dX1_init_73 (?_ : Sd X 76 [(0, 11)] [] _)
  refine sd_iconst hC dX1_init_76 ⟨by decide, by decide⟩ (?_ : Sd X 77 [(0, 11)] [0] _)
  refine sd_istore_n (Γ' := [(0, 11), (1, 0)]) hC dX1_init_77 rfl (by rw [e2]; decide) (by decide) (?_ : Sd X 78 [(0, 11), (1, 0)] [] _)
  exact Sd.weak (by decide) (S_78)
theorem hd_X8_upwards : yX8_upwards.cls ≠ "java/lang/invoke/MethodHandle" ∧ yX8_upwards.cls ≠ "java/lang/invoke/VarHandle" ∧ (parseMethodDescriptor yX8_upwards.desc).map (fun d => d.parameters.length) = some 2 := by decide +kernel
set_option maxRecDepth 100000 in
set_option maxHeartbeats 4000000 in
theorem M_X8_upwards (l : Launch) : Mt l yX8_upwards (Cond.code yX8_upwards cX8_upwards 2 (some .int) :: WALL) { frames := 0, cells := 0, slots := 0, locals := 0 } [0, 0] (some 0) T_X8_upwards := by
  refine Mt.mk (B := E_X8_upwards) (by decide +kernel) (by decide) (fun _ _ _ hh => hh) ?_
  intro X Q e1 e2 e3 hC hN hT
  subst e1
  have hC : CF X cX8_upwards RX8 WALL := hC
  have S_16 : Sd X 16 [(0, 0), (1, 0)] [0] (B_X8_upwards_16 Q) := by
    unfold B_X8_upwards_16
    exact sd_ireturn hC hT dX8_upwards_16
  refine (?_ : Sd X 0 [(0, 0), (1, 0)] [] (E_X8_upwards Q))
  unfold E_X8_upwards
  refine sd_iload_n hC dX8_upwards_0 rfl (by decide) (?_ : Sd X 1 [(0, 0), (1, 0)] [0] _)
  refine sd_iconst hC dX8_upwards_1 ⟨by decide, by decide⟩ (?_ : Sd X 2 [(0, 0), (1, 0)] [0, 0] _)
  refine sd_icmp_gt (tgt := 9) hC dX8_upwards_2 rfl (?_ : Sd X 9 [(0, 0), (1, 0)] [] _) (?_ : Sd X 5 [(0, 0), (1, 0)] [] _)
  · refine sd_iload_n hC dX8_upwards_9 rfl (by decide) (?_ : Sd X 10 [(0, 0), (1, 0)] [0] _)
    refine sd_iload_n hC dX8_upwards_10 rfl (by decide) (?_ : Sd X 11 [(0, 0), (1, 0)] [0, 0] _)
    refine sd_iadd hC dX8_upwards_11 (?_ : Sd X 12 [(0, 0), (1, 0)] [0] _)
    refine sd_iconst hC dX8_upwards_12 ⟨by decide, by decide⟩ (?_ : Sd X 13 [(0, 0), (1, 0)] [0, 0] _)
    refine sd_isub hC dX8_upwards_13 (?_ : Sd X 14 [(0, 0), (1, 0)] [0] _)
    refine sd_iload_n hC dX8_upwards_14 rfl (by decide) (?_ : Sd X 15 [(0, 0), (1, 0)] [0, 0] _)
    refine sd_idiv hC dX8_upwards_15 (?_ : Sd X 16 [(0, 0), (1, 0)] [0] _)
    exact Sd.weak (by decide) (S_16)
  · refine sd_iload_n hC dX8_upwards_5 rfl (by decide) (?_ : Sd X 6 [(0, 0), (1, 0)] [0] _)
    refine sd_goto (tgt := 16) hC dX8_upwards_6 rfl (?_ : Sd X 16 [(0, 0), (1, 0)] [0] _)
    exact Sd.weak (by decide) (S_16)
theorem wl_3_97 : Cond.static yX8_upwards ∈ WALL := tb3 (List.mem_of_getElem? (i := 97) rfl) rfl
theorem wl_1_1 : Cond.initialized RX8 ∈ WALL := tb1 (List.mem_of_getElem? (i := 1) rfl) rfl
theorem wl_3_98 : Cond.code yX8_upwards cX8_upwards 2 (some .int) ∈ WALL := tb3 (List.mem_of_getElem? (i := 98) rfl) rfl
theorem hd_X1_loadingHours : yX1_loadingHours.cls ≠ "java/lang/invoke/MethodHandle" ∧ yX1_loadingHours.cls ≠ "java/lang/invoke/VarHandle" ∧ (parseMethodDescriptor yX1_loadingHours.desc).map (fun d => d.parameters.length) = some 2 := by decide +kernel
set_option maxRecDepth 100000 in
set_option maxHeartbeats 4000000 in
theorem M_X1_loadingHours (l : Launch) : Mt l yX1_loadingHours (Cond.code yX1_loadingHours cX1_loadingHours 3 (some .int) :: WALL) { frames := 1, cells := 0, slots := 0, locals := 21 } [11, 16, 0] (some 0) T_X1_loadingHours := by
  refine Mt.mk (B := E_X1_loadingHours) (by decide +kernel) (by decide) (fun _ _ _ hh => hh) ?_
  intro X Q e1 e2 e3 hC hN hT
  subst e1
  have hC : CF X cX1_loadingHours RX1 WALL := hC
  refine (?_ : Sd X 0 [(0, 11), (1, 16), (2, 0)] [] (E_X1_loadingHours Q))
  unfold E_X1_loadingHours
  refine sd_aload_n hC 16 dX1_loadingHours_0 rfl (by decide) (by decide) (?_ : Sd X 1 [(0, 11), (1, 16), (2, 0)] [16] _)
  refine sd_get hC (ci := 6) (j := 3) (C := RX6) (T := TX6) (N := 7) rfl rfl (by decide) in_X6 wl_1_52 dX1_loadingHours_1 (?_ : Sd X 4 [(0, 11), (1, 16), (2, 0)] [0] _)
  refine sd_aload_n hC 11 dX1_loadingHours_4 rfl (by decide) (by decide) (?_ : Sd X 5 [(0, 11), (1, 16), (2, 0)] [11, 0] _)
  refine sd_get hC (ci := 1) (j := 6) (C := RX1) (T := TX1) (N := 12) rfl rfl (by decide) in_X1 wl_1_101 dX1_loadingHours_5 (?_ : Sd X 8 [(0, 11), (1, 16), (2, 0)] [200, 0] _)
  refine sd_iload_n hC dX1_loadingHours_8 rfl (by decide) (?_ : Sd X 9 [(0, 11), (1, 16), (2, 0)] [0, 200, 0] _)
  refine sd_aaload (e := 100) hC (List.mem_of_getElem? (i := 7) rfl) rfl rfl dX1_loadingHours_9 (?_ : Sd X 10 [(0, 11), (1, 16), (2, 0)] [100, 0] _)
  refine sd_iconst hC dX1_loadingHours_10 ⟨by decide, by decide⟩ (?_ : Sd X 11 [(0, 11), (1, 16), (2, 0)] [0, 100, 0] _)
  refine sd_iaload hC dX1_loadingHours_11 (?_ : Sd X 12 [(0, 11), (1, 16), (2, 0)] [0, 0] _)
  refine sd_invs (τ := []) (τs := [0, 0]) hC true "NarrowRings" WG (M_X8_upwards _) rfl rfl rfl rfl (by decide) wl_3_97 wl_1_1 wl_3_98 hd_X8_upwards (by rw [e3]; decide) (by decide) dX1_loadingHours_12 (?_ : Sd X 15 [(0, 11), (1, 16), (2, 0)] [0] _)
  exact sd_ireturn hC hT dX1_loadingHours_15
theorem wl_3_182 : Cond.methodLink RX1 105 yX1_loadingHours ∈ WALL := tb3 (List.mem_of_getElem? (i := 182) rfl) rfl
theorem wl_3_183 : Cond.instanceMethod yX1_loadingHours ∈ WALL := tb3 (List.mem_of_getElem? (i := 183) rfl) rfl
theorem wl_3_184 : Cond.selects RX1 yX1_loadingHours yX1_loadingHours ∈ WALL := tb3 (List.mem_of_getElem? (i := 184) rfl) rfl
theorem wl_3_185 : Cond.code yX1_loadingHours cX1_loadingHours 3 (some .int) ∈ WALL := tb3 (List.mem_of_getElem? (i := 185) rfl) rfl
theorem hd_X1_loadingPay : yX1_loadingPay.cls ≠ "java/lang/invoke/MethodHandle" ∧ yX1_loadingPay.cls ≠ "java/lang/invoke/VarHandle" ∧ (parseMethodDescriptor yX1_loadingPay.desc).map (fun d => d.parameters.length) = some 2 := by decide +kernel
set_option maxRecDepth 100000 in
set_option maxHeartbeats 4000000 in
theorem M_X1_loadingPay (l : Launch) : Mt l yX1_loadingPay (Cond.code yX1_loadingPay cX1_loadingPay 3 (some .int) :: WALL) { frames := 2, cells := 0, slots := 0, locals := 43 } [11, 16, 0] (some 0) T_X1_loadingPay := by
  refine Mt.mk (B := E_X1_loadingPay) (by decide +kernel) (by decide) (fun _ _ _ hh => hh) ?_
  intro X Q e1 e2 e3 hC hN hT
  subst e1
  have hC : CF X cX1_loadingPay RX1 WALL := hC
  refine (?_ : Sd X 0 [(0, 11), (1, 16), (2, 0)] [] (E_X1_loadingPay Q))
  unfold E_X1_loadingPay
  refine sd_aload_n hC 11 dX1_loadingPay_0 rfl (by decide) (by decide) (?_ : Sd X 1 [(0, 11), (1, 16), (2, 0)] [11] _)
  refine sd_get hC (ci := 1) (j := 6) (C := RX1) (T := TX1) (N := 12) rfl rfl (by decide) in_X1 wl_1_101 dX1_loadingPay_1 (?_ : Sd X 4 [(0, 11), (1, 16), (2, 0)] [200] _)
  refine sd_iload_n hC dX1_loadingPay_4 rfl (by decide) (?_ : Sd X 5 [(0, 11), (1, 16), (2, 0)] [0, 200] _)
  refine sd_aaload (e := 100) hC (List.mem_of_getElem? (i := 7) rfl) rfl rfl dX1_loadingPay_5 (?_ : Sd X 6 [(0, 11), (1, 16), (2, 0)] [100] _)
  refine sd_iconst hC dX1_loadingPay_6 ⟨by decide, by decide⟩ (?_ : Sd X 7 [(0, 11), (1, 16), (2, 0)] [0, 100] _)
  refine sd_iaload hC dX1_loadingPay_7 (?_ : Sd X 8 [(0, 11), (1, 16), (2, 0)] [0] _)
  refine sd_aload_n hC 11 dX1_loadingPay_8 rfl (by decide) (by decide) (?_ : Sd X 9 [(0, 11), (1, 16), (2, 0)] [11, 0] _)
  refine sd_aload_n hC 16 dX1_loadingPay_9 rfl (by decide) (by decide) (?_ : Sd X 10 [(0, 11), (1, 16), (2, 0)] [16, 11, 0] _)
  refine sd_iload_n hC dX1_loadingPay_10 rfl (by decide) (?_ : Sd X 11 [(0, 11), (1, 16), (2, 0)] [0, 16, 11, 0] _)
  refine sd_inv0 (τ := [0]) (τr := [16, 0]) (ci := 1) (q := (RX1, TX1, 12)) hC WG (M_X1_loadingHours _) rfl rfl rfl rfl  rfl rfl wl_3_182 wl_3_183 wl_3_184 wl_1_2 wl_3_185 hd_X1_loadingHours (by rw [e3]; decide) (by decide) dX1_loadingPay_11 (?_ : Sd X 14 [(0, 11), (1, 16), (2, 0)] [0, 0] _)
  refine sd_aload_n hC 11 dX1_loadingPay_14 rfl (by decide) (by decide) (?_ : Sd X 15 [(0, 11), (1, 16), (2, 0)] [11, 0, 0] _)
  refine sd_get hC (ci := 1) (j := 6) (C := RX1) (T := TX1) (N := 12) rfl rfl (by decide) in_X1 wl_1_101 dX1_loadingPay_15 (?_ : Sd X 18 [(0, 11), (1, 16), (2, 0)] [200, 0, 0] _)
  refine sd_iload_n hC dX1_loadingPay_18 rfl (by decide) (?_ : Sd X 19 [(0, 11), (1, 16), (2, 0)] [0, 200, 0, 0] _)
  refine sd_aaload (e := 100) hC (List.mem_of_getElem? (i := 7) rfl) rfl rfl dX1_loadingPay_19 (?_ : Sd X 20 [(0, 11), (1, 16), (2, 0)] [100, 0, 0] _)
  refine sd_iconst hC dX1_loadingPay_20 ⟨by decide, by decide⟩ (?_ : Sd X 21 [(0, 11), (1, 16), (2, 0)] [0, 100, 0, 0] _)
  refine sd_iaload hC dX1_loadingPay_21 (?_ : Sd X 22 [(0, 11), (1, 16), (2, 0)] [0, 0, 0] _)
  refine sd_imul hC dX1_loadingPay_22 (?_ : Sd X 23 [(0, 11), (1, 16), (2, 0)] [0, 0] _)
  refine sd_iadd hC dX1_loadingPay_23 (?_ : Sd X 24 [(0, 11), (1, 16), (2, 0)] [0] _)
  exact sd_ireturn hC hT dX1_loadingPay_24
theorem hd_X1_ringTakes : yX1_ringTakes.cls ≠ "java/lang/invoke/MethodHandle" ∧ yX1_ringTakes.cls ≠ "java/lang/invoke/VarHandle" ∧ (parseMethodDescriptor yX1_ringTakes.desc).map (fun d => d.parameters.length) = some 3 := by decide +kernel
set_option maxRecDepth 100000 in
set_option maxHeartbeats 4000000 in
theorem M_X1_ringTakes (l : Launch) : Mt l yX1_ringTakes (Cond.code yX1_ringTakes cX1_ringTakes 4 (some .boolean) :: WALL) { frames := 0, cells := 0, slots := 0, locals := 0 } [11, 16, 0, 0] (some 0) T_X1_ringTakes := by
  refine Mt.mk (B := E_X1_ringTakes) (by decide +kernel) (by decide) (fun _ _ _ hh => hh) ?_
  intro X Q e1 e2 e3 hC hN hT
  subst e1
  have hC : CF X cX1_ringTakes RX1 WALL := hC
  have S_20 : Sd X 20 [(0, 11), (1, 16), (2, 0), (3, 0)] [0] (B_X1_ringTakes_20 Q) := by
    unfold B_X1_ringTakes_20
    exact sd_zreturn hC hT dX1_ringTakes_20
  refine (?_ : Sd X 0 [(0, 11), (1, 16), (2, 0), (3, 0)] [] (E_X1_ringTakes Q))
  unfold E_X1_ringTakes
  refine sd_aload_n hC 16 dX1_ringTakes_0 rfl (by decide) (by decide) (?_ : Sd X 1 [(0, 11), (1, 16), (2, 0), (3, 0)] [16] _)
  refine sd_get hC (ci := 6) (j := 1) (C := RX6) (T := TX6) (N := 7) rfl rfl (by decide) in_X6 wl_1_49 dX1_ringTakes_1 (?_ : Sd X 4 [(0, 11), (1, 16), (2, 0), (3, 0)] [100] _)
  refine sd_iload_n hC dX1_ringTakes_4 rfl (by decide) (?_ : Sd X 5 [(0, 11), (1, 16), (2, 0), (3, 0)] [0, 100] _)
  refine sd_iaload hC dX1_ringTakes_5 (?_ : Sd X 6 [(0, 11), (1, 16), (2, 0), (3, 0)] [0] _)
  refine sd_aload_n hC 11 dX1_ringTakes_6 rfl (by decide) (by decide) (?_ : Sd X 7 [(0, 11), (1, 16), (2, 0), (3, 0)] [11, 0] _)
  refine sd_get hC (ci := 1) (j := 5) (C := RX1) (T := TX1) (N := 12) rfl rfl (by decide) in_X1 wl_1_99 dX1_ringTakes_7 (?_ : Sd X 10 [(0, 11), (1, 16), (2, 0), (3, 0)] [100, 0] _)
  refine sd_iload_n hC dX1_ringTakes_10 rfl (by decide) (?_ : Sd X 11 [(0, 11), (1, 16), (2, 0), (3, 0)] [0, 100, 0] _)
  refine sd_iaload hC dX1_ringTakes_11 (?_ : Sd X 12 [(0, 11), (1, 16), (2, 0), (3, 0)] [0, 0] _)
  refine sd_icmp_gt (tgt := 19) hC dX1_ringTakes_12 rfl (?_ : Sd X 19 [(0, 11), (1, 16), (2, 0), (3, 0)] [] _) (?_ : Sd X 15 [(0, 11), (1, 16), (2, 0), (3, 0)] [] _)
  · refine sd_iconst hC dX1_ringTakes_19 ⟨by decide, by decide⟩ (?_ : Sd X 20 [(0, 11), (1, 16), (2, 0), (3, 0)] [0] _)
    exact Sd.weak (by decide) (S_20)
  · refine sd_iconst hC dX1_ringTakes_15 ⟨by decide, by decide⟩ (?_ : Sd X 16 [(0, 11), (1, 16), (2, 0), (3, 0)] [0] _)
    refine sd_goto (tgt := 20) hC dX1_ringTakes_16 rfl (?_ : Sd X 20 [(0, 11), (1, 16), (2, 0), (3, 0)] [0] _)
    exact Sd.weak (by decide) (S_20)
theorem hd_X1_thing : yX1_thing.cls ≠ "java/lang/invoke/MethodHandle" ∧ yX1_thing.cls ≠ "java/lang/invoke/VarHandle" ∧ (parseMethodDescriptor yX1_thing.desc).map (fun d => d.parameters.length) = some 2 := by decide +kernel
set_option maxRecDepth 100000 in
set_option maxHeartbeats 4000000 in
theorem M_X1_thing (l : Launch) : Mt l yX1_thing (Cond.code yX1_thing cX1_thing 3 (some (.object "NarrowRings$Thing")) :: WALL) { frames := 0, cells := 0, slots := 0, locals := 0 } [11, 0, 0] (some 16) T_X1_thing := by
  refine Mt.mk (B := E_X1_thing) (by decide +kernel) (by decide) (fun _ _ _ hh => hh) ?_
  intro X Q e1 e2 e3 hC hN hT
  subst e1
  have hC : CF X cX1_thing RX1 WALL := hC
  have S_19 : Sd X 19 [(0, 11), (1, 0), (2, 0)] [16] (B_X1_thing_19 Q) := by
    unfold B_X1_thing_19
    exact sd_areturn hC (by decide) hT dX1_thing_19
  refine (?_ : Sd X 0 [(0, 11), (1, 0), (2, 0)] [] (E_X1_thing Q))
  unfold E_X1_thing
  refine sd_iload_n hC dX1_thing_0 rfl (by decide) (?_ : Sd X 1 [(0, 11), (1, 0), (2, 0)] [0] _)
  refine sd_if_eq (tgt := 13) hC dX1_thing_1 rfl (?_ : Sd X 13 [(0, 11), (1, 0), (2, 0)] [] _) (?_ : Sd X 4 [(0, 11), (1, 0), (2, 0)] [] _)
  · refine sd_aload_n hC 11 dX1_thing_13 rfl (by decide) (by decide) (?_ : Sd X 14 [(0, 11), (1, 0), (2, 0)] [11] _)
    refine sd_get hC (ci := 1) (j := 10) (C := RX1) (T := TX1) (N := 12) rfl rfl (by decide) in_X1 wl_1_116 dX1_thing_14 (?_ : Sd X 17 [(0, 11), (1, 0), (2, 0)] [116] _)
    refine sd_iload_n hC dX1_thing_17 rfl (by decide) (?_ : Sd X 18 [(0, 11), (1, 0), (2, 0)] [0, 116] _)
    refine sd_aaload (e := 16) hC (List.mem_of_getElem? (i := 5) rfl) rfl rfl dX1_thing_18 (?_ : Sd X 19 [(0, 11), (1, 0), (2, 0)] [16] _)
    exact Sd.weak (by decide) (S_19)
  · refine sd_aload_n hC 11 dX1_thing_4 rfl (by decide) (by decide) (?_ : Sd X 5 [(0, 11), (1, 0), (2, 0)] [11] _)
    refine sd_get hC (ci := 1) (j := 11) (C := RX1) (T := TX1) (N := 12) rfl rfl (by decide) in_X1 wl_1_119 dX1_thing_5 (?_ : Sd X 8 [(0, 11), (1, 0), (2, 0)] [116] _)
    refine sd_iload_n hC dX1_thing_8 rfl (by decide) (?_ : Sd X 9 [(0, 11), (1, 0), (2, 0)] [0, 116] _)
    refine sd_aaload (e := 16) hC (List.mem_of_getElem? (i := 5) rfl) rfl rfl dX1_thing_9 (?_ : Sd X 10 [(0, 11), (1, 0), (2, 0)] [16] _)
    refine sd_goto (tgt := 19) hC dX1_thing_10 rfl (?_ : Sd X 19 [(0, 11), (1, 0), (2, 0)] [16] _)
    exact Sd.weak (by decide) (S_19)
theorem wl_2_40 : Cond.fieldLink RX2 21 "NarrowRings$Day" "row" "[[I" ∈ WALL := tb2 (List.mem_of_getElem? (i := 40) rfl) rfl
theorem wl_2_38 : Cond.fieldLink RX2 46 "NarrowRings$Day" "loads" "I" ∈ WALL := tb2 (List.mem_of_getElem? (i := 38) rfl) rfl
theorem wl_2_51 : Cond.fieldLink RX2 9 "NarrowRings$Day" "city" "LNarrowRings$City;" ∈ WALL := tb2 (List.mem_of_getElem? (i := 51) rfl) rfl
theorem wl_1_113 : Cond.fieldLink RX2 69 "NarrowRings$City" "order" "[[I" ∈ WALL := tb1 (List.mem_of_getElem? (i := 113) rfl) rfl
theorem hd_X2_addLoad : yX2_addLoad.cls ≠ "java/lang/invoke/MethodHandle" ∧ yX2_addLoad.cls ≠ "java/lang/invoke/VarHandle" ∧ (parseMethodDescriptor yX2_addLoad.desc).map (fun d => d.parameters.length) = some 1 := by decide +kernel
set_option maxRecDepth 100000 in
set_option maxHeartbeats 4000000 in
theorem M_X2_addLoad (l : Launch) : Mt l yX2_addLoad (Cond.code yX2_addLoad cX2_addLoad 2 none :: WALL) { frames := 0, cells := 0, slots := 0, locals := 0 } [12, 0] none T_X2_addLoad := by
  refine Mt.mk (B := E_X2_addLoad) (by decide +kernel) (by decide) (fun _ _ _ hh => hh) ?_
  intro X Q e1 e2 e3 hC hN hT
  subst e1
  have hC : CF X cX2_addLoad RX2 WALL := hC
  refine (?_ : Sd X 0 [(0, 12), (1, 0)] [] (E_X2_addLoad Q))
  unfold E_X2_addLoad
  refine sd_aload_n hC 12 dX2_addLoad_0 rfl (by decide) (by decide) (?_ : Sd X 1 [(0, 12), (1, 0)] [12] _)
  refine sd_get hC (ci := 2) (j := 2) (C := RX2) (T := TX2) (N := 10) rfl rfl (by decide) in_X2 wl_2_40 dX2_addLoad_1 (?_ : Sd X 4 [(0, 12), (1, 0)] [200] _)
  refine sd_iconst hC dX2_addLoad_4 ⟨by decide, by decide⟩ (?_ : Sd X 5 [(0, 12), (1, 0)] [0, 200] _)
  refine sd_aaload (e := 100) hC (List.mem_of_getElem? (i := 7) rfl) rfl rfl dX2_addLoad_5 (?_ : Sd X 6 [(0, 12), (1, 0)] [100] _)
  refine sd_aload_n hC 12 dX2_addLoad_6 rfl (by decide) (by decide) (?_ : Sd X 7 [(0, 12), (1, 0)] [12, 100] _)
  refine sd_get hC (ci := 2) (j := 1) (C := RX2) (T := TX2) (N := 10) rfl rfl (by decide) in_X2 wl_2_38 dX2_addLoad_7 (?_ : Sd X 10 [(0, 12), (1, 0)] [0, 100] _)
  refine sd_iload_n hC dX2_addLoad_10 rfl (by decide) (?_ : Sd X 11 [(0, 12), (1, 0)] [0, 0, 100] _)
  refine sd_iastore hC dX2_addLoad_11 (?_ : Sd X 12 [(0, 12), (1, 0)] [] _)
  refine sd_aload_n hC 12 dX2_addLoad_12 rfl (by decide) (by decide) (?_ : Sd X 13 [(0, 12), (1, 0)] [12] _)
  refine sd_get hC (ci := 2) (j := 2) (C := RX2) (T := TX2) (N := 10) rfl rfl (by decide) in_X2 wl_2_40 dX2_addLoad_13 (?_ : Sd X 16 [(0, 12), (1, 0)] [200] _)
  refine sd_iconst hC dX2_addLoad_16 ⟨by decide, by decide⟩ (?_ : Sd X 17 [(0, 12), (1, 0)] [0, 200] _)
  refine sd_aaload (e := 100) hC (List.mem_of_getElem? (i := 7) rfl) rfl rfl dX2_addLoad_17 (?_ : Sd X 18 [(0, 12), (1, 0)] [100] _)
  refine sd_aload_n hC 12 dX2_addLoad_18 rfl (by decide) (by decide) (?_ : Sd X 19 [(0, 12), (1, 0)] [12, 100] _)
  refine sd_get hC (ci := 2) (j := 1) (C := RX2) (T := TX2) (N := 10) rfl rfl (by decide) in_X2 wl_2_38 dX2_addLoad_19 (?_ : Sd X 22 [(0, 12), (1, 0)] [0, 100] _)
  refine sd_aload_n hC 12 dX2_addLoad_22 rfl (by decide) (by decide) (?_ : Sd X 23 [(0, 12), (1, 0)] [12, 0, 100] _)
  refine sd_get hC (ci := 2) (j := 8) (C := RX2) (T := TX2) (N := 10) rfl rfl (by decide) in_X2 wl_2_51 dX2_addLoad_23 (?_ : Sd X 26 [(0, 12), (1, 0)] [11, 0, 100] _)
  refine sd_get hC (ci := 1) (j := 9) (C := RX1) (T := TX1) (N := 12) rfl rfl (by decide) in_X1 wl_1_113 dX2_addLoad_26 (?_ : Sd X 29 [(0, 12), (1, 0)] [200, 0, 100] _)
  refine sd_iload_n hC dX2_addLoad_29 rfl (by decide) (?_ : Sd X 30 [(0, 12), (1, 0)] [0, 200, 0, 100] _)
  refine sd_aaload (e := 100) hC (List.mem_of_getElem? (i := 7) rfl) rfl rfl dX2_addLoad_30 (?_ : Sd X 31 [(0, 12), (1, 0)] [100, 0, 100] _)
  refine sd_iconst hC dX2_addLoad_31 ⟨by decide, by decide⟩ (?_ : Sd X 32 [(0, 12), (1, 0)] [0, 100, 0, 100] _)
  refine sd_iaload hC dX2_addLoad_32 (?_ : Sd X 33 [(0, 12), (1, 0)] [0, 0, 100] _)
  refine sd_iastore hC dX2_addLoad_33 (?_ : Sd X 34 [(0, 12), (1, 0)] [] _)
  refine sd_aload_n hC 12 dX2_addLoad_34 rfl (by decide) (by decide) (?_ : Sd X 35 [(0, 12), (1, 0)] [12] _)
  refine sd_get hC (ci := 2) (j := 2) (C := RX2) (T := TX2) (N := 10) rfl rfl (by decide) in_X2 wl_2_40 dX2_addLoad_35 (?_ : Sd X 38 [(0, 12), (1, 0)] [200] _)
  refine sd_iconst hC dX2_addLoad_38 ⟨by decide, by decide⟩ (?_ : Sd X 39 [(0, 12), (1, 0)] [0, 200] _)
  refine sd_aaload (e := 100) hC (List.mem_of_getElem? (i := 7) rfl) rfl rfl dX2_addLoad_39 (?_ : Sd X 40 [(0, 12), (1, 0)] [100] _)
  refine sd_aload_n hC 12 dX2_addLoad_40 rfl (by decide) (by decide) (?_ : Sd X 41 [(0, 12), (1, 0)] [12, 100] _)
  refine sd_get hC (ci := 2) (j := 1) (C := RX2) (T := TX2) (N := 10) rfl rfl (by decide) in_X2 wl_2_38 dX2_addLoad_41 (?_ : Sd X 44 [(0, 12), (1, 0)] [0, 100] _)
  refine sd_aload_n hC 12 dX2_addLoad_44 rfl (by decide) (by decide) (?_ : Sd X 45 [(0, 12), (1, 0)] [12, 0, 100] _)
  refine sd_get hC (ci := 2) (j := 8) (C := RX2) (T := TX2) (N := 10) rfl rfl (by decide) in_X2 wl_2_51 dX2_addLoad_45 (?_ : Sd X 48 [(0, 12), (1, 0)] [11, 0, 100] _)
  refine sd_get hC (ci := 1) (j := 9) (C := RX1) (T := TX1) (N := 12) rfl rfl (by decide) in_X1 wl_1_113 dX2_addLoad_48 (?_ : Sd X 51 [(0, 12), (1, 0)] [200, 0, 100] _)
  refine sd_iload_n hC dX2_addLoad_51 rfl (by decide) (?_ : Sd X 52 [(0, 12), (1, 0)] [0, 200, 0, 100] _)
  refine sd_aaload (e := 100) hC (List.mem_of_getElem? (i := 7) rfl) rfl rfl dX2_addLoad_52 (?_ : Sd X 53 [(0, 12), (1, 0)] [100, 0, 100] _)
  refine sd_iconst hC dX2_addLoad_53 ⟨by decide, by decide⟩ (?_ : Sd X 54 [(0, 12), (1, 0)] [0, 100, 0, 100] _)
  refine sd_iaload hC dX2_addLoad_54 (?_ : Sd X 55 [(0, 12), (1, 0)] [0, 0, 100] _)
  refine sd_iastore hC dX2_addLoad_55 (?_ : Sd X 56 [(0, 12), (1, 0)] [] _)
  refine sd_aload_n hC 12 dX2_addLoad_56 rfl (by decide) (by decide) (?_ : Sd X 57 [(0, 12), (1, 0)] [12] _)
  refine sd_get hC (ci := 2) (j := 2) (C := RX2) (T := TX2) (N := 10) rfl rfl (by decide) in_X2 wl_2_40 dX2_addLoad_57 (?_ : Sd X 60 [(0, 12), (1, 0)] [200] _)
  refine sd_iconst hC dX2_addLoad_60 ⟨by decide, by decide⟩ (?_ : Sd X 61 [(0, 12), (1, 0)] [0, 200] _)
  refine sd_aaload (e := 100) hC (List.mem_of_getElem? (i := 7) rfl) rfl rfl dX2_addLoad_61 (?_ : Sd X 62 [(0, 12), (1, 0)] [100] _)
  refine sd_aload_n hC 12 dX2_addLoad_62 rfl (by decide) (by decide) (?_ : Sd X 63 [(0, 12), (1, 0)] [12, 100] _)
  refine sd_get hC (ci := 2) (j := 1) (C := RX2) (T := TX2) (N := 10) rfl rfl (by decide) in_X2 wl_2_38 dX2_addLoad_63 (?_ : Sd X 66 [(0, 12), (1, 0)] [0, 100] _)
  refine sd_iconst hC dX2_addLoad_66 ⟨by decide, by decide⟩ (?_ : Sd X 67 [(0, 12), (1, 0)] [0, 0, 100] _)
  refine sd_iastore hC dX2_addLoad_67 (?_ : Sd X 68 [(0, 12), (1, 0)] [] _)
  refine sd_aload_n hC 12 dX2_addLoad_68 rfl (by decide) (by decide) (?_ : Sd X 69 [(0, 12), (1, 0)] [12] _)
  refine sd_get hC (ci := 2) (j := 2) (C := RX2) (T := TX2) (N := 10) rfl rfl (by decide) in_X2 wl_2_40 dX2_addLoad_69 (?_ : Sd X 72 [(0, 12), (1, 0)] [200] _)
  refine sd_iconst hC dX2_addLoad_72 ⟨by decide, by decide⟩ (?_ : Sd X 73 [(0, 12), (1, 0)] [0, 200] _)
  refine sd_aaload (e := 100) hC (List.mem_of_getElem? (i := 7) rfl) rfl rfl dX2_addLoad_73 (?_ : Sd X 74 [(0, 12), (1, 0)] [100] _)
  refine sd_aload_n hC 12 dX2_addLoad_74 rfl (by decide) (by decide) (?_ : Sd X 75 [(0, 12), (1, 0)] [12, 100] _)
  refine sd_get hC (ci := 2) (j := 1) (C := RX2) (T := TX2) (N := 10) rfl rfl (by decide) in_X2 wl_2_38 dX2_addLoad_75 (?_ : Sd X 78 [(0, 12), (1, 0)] [0, 100] _)
  refine sd_iconst hC dX2_addLoad_78 ⟨by decide, by decide⟩ (?_ : Sd X 79 [(0, 12), (1, 0)] [0, 0, 100] _)
  refine sd_iastore hC dX2_addLoad_79 (?_ : Sd X 80 [(0, 12), (1, 0)] [] _)
  refine sd_aload_n hC 12 dX2_addLoad_80 rfl (by decide) (by decide) (?_ : Sd X 81 [(0, 12), (1, 0)] [12] _)
  refine sd_get hC (ci := 2) (j := 2) (C := RX2) (T := TX2) (N := 10) rfl rfl (by decide) in_X2 wl_2_40 dX2_addLoad_81 (?_ : Sd X 84 [(0, 12), (1, 0)] [200] _)
  refine sd_iconst hC dX2_addLoad_84 ⟨by decide, by decide⟩ (?_ : Sd X 85 [(0, 12), (1, 0)] [0, 200] _)
  refine sd_aaload (e := 100) hC (List.mem_of_getElem? (i := 7) rfl) rfl rfl dX2_addLoad_85 (?_ : Sd X 86 [(0, 12), (1, 0)] [100] _)
  refine sd_aload_n hC 12 dX2_addLoad_86 rfl (by decide) (by decide) (?_ : Sd X 87 [(0, 12), (1, 0)] [12, 100] _)
  refine sd_get hC (ci := 2) (j := 1) (C := RX2) (T := TX2) (N := 10) rfl rfl (by decide) in_X2 wl_2_38 dX2_addLoad_87 (?_ : Sd X 90 [(0, 12), (1, 0)] [0, 100] _)
  refine sd_iconst hC dX2_addLoad_90 ⟨by decide, by decide⟩ (?_ : Sd X 91 [(0, 12), (1, 0)] [0, 0, 100] _)
  refine sd_iastore hC dX2_addLoad_91 (?_ : Sd X 92 [(0, 12), (1, 0)] [] _)
  refine sd_aload_n hC 12 dX2_addLoad_92 rfl (by decide) (by decide) (?_ : Sd X 93 [(0, 12), (1, 0)] [12] _)
  refine sd_get hC (ci := 2) (j := 2) (C := RX2) (T := TX2) (N := 10) rfl rfl (by decide) in_X2 wl_2_40 dX2_addLoad_93 (?_ : Sd X 96 [(0, 12), (1, 0)] [200] _)
  refine sd_bipush hC dX2_addLoad_96 (by decide) (?_ : Sd X 98 [(0, 12), (1, 0)] [0, 200] _)
  refine sd_aaload (e := 100) hC (List.mem_of_getElem? (i := 7) rfl) rfl rfl dX2_addLoad_98 (?_ : Sd X 99 [(0, 12), (1, 0)] [100] _)
  refine sd_aload_n hC 12 dX2_addLoad_99 rfl (by decide) (by decide) (?_ : Sd X 100 [(0, 12), (1, 0)] [12, 100] _)
  refine sd_get hC (ci := 2) (j := 1) (C := RX2) (T := TX2) (N := 10) rfl rfl (by decide) in_X2 wl_2_38 dX2_addLoad_100 (?_ : Sd X 103 [(0, 12), (1, 0)] [0, 100] _)
  refine sd_bipush hC dX2_addLoad_103 (by decide) (?_ : Sd X 105 [(0, 12), (1, 0)] [0, 0, 100] _)
  refine sd_iastore hC dX2_addLoad_105 (?_ : Sd X 106 [(0, 12), (1, 0)] [] _)
  refine sd_aload_n hC 12 dX2_addLoad_106 rfl (by decide) (by decide) (?_ : Sd X 107 [(0, 12), (1, 0)] [12] _)
  refine sd_get hC (ci := 2) (j := 2) (C := RX2) (T := TX2) (N := 10) rfl rfl (by decide) in_X2 wl_2_40 dX2_addLoad_107 (?_ : Sd X 110 [(0, 12), (1, 0)] [200] _)
  refine sd_bipush hC dX2_addLoad_110 (by decide) (?_ : Sd X 112 [(0, 12), (1, 0)] [0, 200] _)
  refine sd_aaload (e := 100) hC (List.mem_of_getElem? (i := 7) rfl) rfl rfl dX2_addLoad_112 (?_ : Sd X 113 [(0, 12), (1, 0)] [100] _)
  refine sd_aload_n hC 12 dX2_addLoad_113 rfl (by decide) (by decide) (?_ : Sd X 114 [(0, 12), (1, 0)] [12, 100] _)
  refine sd_get hC (ci := 2) (j := 1) (C := RX2) (T := TX2) (N := 10) rfl rfl (by decide) in_X2 wl_2_38 dX2_addLoad_114 (?_ : Sd X 117 [(0, 12), (1, 0)] [0, 100] _)
  refine sd_bipush hC dX2_addLoad_117 (by decide) (?_ : Sd X 119 [(0, 12), (1, 0)] [0, 0, 100] _)
  refine sd_iastore hC dX2_addLoad_119 (?_ : Sd X 120 [(0, 12), (1, 0)] [] _)
  refine sd_aload_n hC 12 dX2_addLoad_120 rfl (by decide) (by decide) (?_ : Sd X 121 [(0, 12), (1, 0)] [12] _)
  refine sd_get hC (ci := 2) (j := 2) (C := RX2) (T := TX2) (N := 10) rfl rfl (by decide) in_X2 wl_2_40 dX2_addLoad_121 (?_ : Sd X 124 [(0, 12), (1, 0)] [200] _)
  refine sd_bipush hC dX2_addLoad_124 (by decide) (?_ : Sd X 126 [(0, 12), (1, 0)] [0, 200] _)
  refine sd_aaload (e := 100) hC (List.mem_of_getElem? (i := 7) rfl) rfl rfl dX2_addLoad_126 (?_ : Sd X 127 [(0, 12), (1, 0)] [100] _)
  refine sd_aload_n hC 12 dX2_addLoad_127 rfl (by decide) (by decide) (?_ : Sd X 128 [(0, 12), (1, 0)] [12, 100] _)
  refine sd_get hC (ci := 2) (j := 1) (C := RX2) (T := TX2) (N := 10) rfl rfl (by decide) in_X2 wl_2_38 dX2_addLoad_128 (?_ : Sd X 131 [(0, 12), (1, 0)] [0, 100] _)
  refine sd_iconst hC dX2_addLoad_131 ⟨by decide, by decide⟩ (?_ : Sd X 132 [(0, 12), (1, 0)] [0, 0, 100] _)
  refine sd_iastore hC dX2_addLoad_132 (?_ : Sd X 133 [(0, 12), (1, 0)] [] _)
  refine sd_aload_n hC 12 dX2_addLoad_133 rfl (by decide) (by decide) (?_ : Sd X 134 [(0, 12), (1, 0)] [12] _)
  refine sd_get hC (ci := 2) (j := 2) (C := RX2) (T := TX2) (N := 10) rfl rfl (by decide) in_X2 wl_2_40 dX2_addLoad_134 (?_ : Sd X 137 [(0, 12), (1, 0)] [200] _)
  refine sd_bipush hC dX2_addLoad_137 (by decide) (?_ : Sd X 139 [(0, 12), (1, 0)] [0, 200] _)
  refine sd_aaload (e := 100) hC (List.mem_of_getElem? (i := 7) rfl) rfl rfl dX2_addLoad_139 (?_ : Sd X 140 [(0, 12), (1, 0)] [100] _)
  refine sd_aload_n hC 12 dX2_addLoad_140 rfl (by decide) (by decide) (?_ : Sd X 141 [(0, 12), (1, 0)] [12, 100] _)
  refine sd_get hC (ci := 2) (j := 1) (C := RX2) (T := TX2) (N := 10) rfl rfl (by decide) in_X2 wl_2_38 dX2_addLoad_141 (?_ : Sd X 144 [(0, 12), (1, 0)] [0, 100] _)
  refine sd_iconst hC dX2_addLoad_144 ⟨by decide, by decide⟩ (?_ : Sd X 145 [(0, 12), (1, 0)] [0, 0, 100] _)
  refine sd_iastore hC dX2_addLoad_145 (?_ : Sd X 146 [(0, 12), (1, 0)] [] _)
  refine sd_aload_n hC 12 dX2_addLoad_146 rfl (by decide) (by decide) (?_ : Sd X 147 [(0, 12), (1, 0)] [12] _)
  refine sd_dup hC (by decide) dX2_addLoad_147 (?_ : Sd X 148 [(0, 12), (1, 0)] [12, 12] _)
  refine sd_get hC (ci := 2) (j := 1) (C := RX2) (T := TX2) (N := 10) rfl rfl (by decide) in_X2 wl_2_38 dX2_addLoad_148 (?_ : Sd X 151 [(0, 12), (1, 0)] [0, 12] _)
  refine sd_iconst hC dX2_addLoad_151 ⟨by decide, by decide⟩ (?_ : Sd X 152 [(0, 12), (1, 0)] [0, 0, 12] _)
  refine sd_iadd hC dX2_addLoad_152 (?_ : Sd X 153 [(0, 12), (1, 0)] [0, 12] _)
  refine sd_put hC (ci := 2) (j := 1) (C := RX2) (T := TX2) (N := 10) tyX2 tyX2_ok nmX2 rfl rfl (by decide) in_X2 rfl rfl wl_2_38 dX2_addLoad_153 (?_ : Sd X 156 [(0, 12), (1, 0)] [] _)
  exact sd_return hC hT dX2_addLoad_156
theorem wl_2_52 : Cond.fieldLink RX2 15 "NarrowRings$Day" "ways" "[LNarrowRings$Way;" ∈ WALL := tb2 (List.mem_of_getElem? (i := 52) rfl) rfl
theorem wl_2_8 : Cond.fieldLink RX2 94 "NarrowRings$Way" "gates" "I" ∈ WALL := tb2 (List.mem_of_getElem? (i := 8) rfl) rfl
theorem wl_2_12 : Cond.fieldLink RX2 97 "NarrowRings$Way" "gate" "[I" ∈ WALL := tb2 (List.mem_of_getElem? (i := 12) rfl) rfl
theorem hd_X2_gateAhead : yX2_gateAhead.cls ≠ "java/lang/invoke/MethodHandle" ∧ yX2_gateAhead.cls ≠ "java/lang/invoke/VarHandle" ∧ (parseMethodDescriptor yX2_gateAhead.desc).map (fun d => d.parameters.length) = some 1 := by decide +kernel
set_option maxRecDepth 100000 in
set_option maxHeartbeats 4000000 in
theorem M_X2_gateAhead (l : Launch) : Mt l yX2_gateAhead (Cond.code yX2_gateAhead cX2_gateAhead 4 (some .int) :: WALL) { frames := 0, cells := 0, slots := 0, locals := 0 } [12, 0] (some 0) T_X2_gateAhead := by
  refine Mt.mk (B := E_X2_gateAhead) (by decide +kernel) (by decide) (fun _ _ _ hh => hh) ?_
  intro X Q e1 e2 e3 hC hN hT
  subst e1
  have hC : CF X cX2_gateAhead RX2 WALL := hC
  have S_42 : Sd X 42 [(0, 12), (1, 0), (2, 17), (3, 0)] [0] (B_X2_gateAhead_42 Q) := by
    unfold B_X2_gateAhead_42
    exact sd_ireturn hC hT dX2_gateAhead_42
  refine (?_ : Sd X 0 [(0, 12), (1, 0)] [] (E_X2_gateAhead Q))
  unfold E_X2_gateAhead
  refine sd_aload_n hC 12 dX2_gateAhead_0 rfl (by decide) (by decide) (?_ : Sd X 1 [(0, 12), (1, 0)] [12] _)
  refine sd_get hC (ci := 2) (j := 9) (C := RX2) (T := TX2) (N := 10) rfl rfl (by decide) in_X2 wl_2_52 dX2_gateAhead_1 (?_ : Sd X 4 [(0, 12), (1, 0)] [117] _)
  refine sd_aload_n hC 12 dX2_gateAhead_4 rfl (by decide) (by decide) (?_ : Sd X 5 [(0, 12), (1, 0)] [12, 117] _)
  refine sd_get hC (ci := 2) (j := 2) (C := RX2) (T := TX2) (N := 10) rfl rfl (by decide) in_X2 wl_2_40 dX2_gateAhead_5 (?_ : Sd X 8 [(0, 12), (1, 0)] [200, 117] _)
  refine sd_iconst hC dX2_gateAhead_8 ⟨by decide, by decide⟩ (?_ : Sd X 9 [(0, 12), (1, 0)] [0, 200, 117] _)
  refine sd_aaload (e := 100) hC (List.mem_of_getElem? (i := 7) rfl) rfl rfl dX2_gateAhead_9 (?_ : Sd X 10 [(0, 12), (1, 0)] [100, 117] _)
  refine sd_iload_n hC dX2_gateAhead_10 rfl (by decide) (?_ : Sd X 11 [(0, 12), (1, 0)] [0, 100, 117] _)
  refine sd_iaload hC dX2_gateAhead_11 (?_ : Sd X 12 [(0, 12), (1, 0)] [0, 117] _)
  refine sd_aaload (e := 17) hC (List.mem_of_getElem? (i := 6) rfl) rfl rfl dX2_gateAhead_12 (?_ : Sd X 13 [(0, 12), (1, 0)] [17] _)
  refine sd_astore_n (Γ' := [(0, 12), (1, 0), (2, 17)]) hC dX2_gateAhead_13 rfl (by decide) (by rw [e2]; decide) (by decide) (?_ : Sd X 14 [(0, 12), (1, 0), (2, 17)] [] _)
  refine sd_aload_n hC 12 dX2_gateAhead_14 rfl (by decide) (by decide) (?_ : Sd X 15 [(0, 12), (1, 0), (2, 17)] [12] _)
  refine sd_get hC (ci := 2) (j := 2) (C := RX2) (T := TX2) (N := 10) rfl rfl (by decide) in_X2 wl_2_40 dX2_gateAhead_15 (?_ : Sd X 18 [(0, 12), (1, 0), (2, 17)] [200] _)
  refine sd_bipush hC dX2_gateAhead_18 (by decide) (?_ : Sd X 20 [(0, 12), (1, 0), (2, 17)] [0, 200] _)
  refine sd_aaload (e := 100) hC (List.mem_of_getElem? (i := 7) rfl) rfl rfl dX2_gateAhead_20 (?_ : Sd X 21 [(0, 12), (1, 0), (2, 17)] [100] _)
  refine sd_iload_n hC dX2_gateAhead_21 rfl (by decide) (?_ : Sd X 22 [(0, 12), (1, 0), (2, 17)] [0, 100] _)
  refine sd_iaload hC dX2_gateAhead_22 (?_ : Sd X 23 [(0, 12), (1, 0), (2, 17)] [0] _)
  refine sd_istore_n (Γ' := [(0, 12), (1, 0), (2, 17), (3, 0)]) hC dX2_gateAhead_23 rfl (by rw [e2]; decide) (by decide) (?_ : Sd X 24 [(0, 12), (1, 0), (2, 17), (3, 0)] [] _)
  refine sd_iload_n hC dX2_gateAhead_24 rfl (by decide) (?_ : Sd X 25 [(0, 12), (1, 0), (2, 17), (3, 0)] [0] _)
  refine sd_aload_n hC 17 dX2_gateAhead_25 rfl (by decide) (by decide) (?_ : Sd X 26 [(0, 12), (1, 0), (2, 17), (3, 0)] [17, 0] _)
  refine sd_get hC (ci := 7) (j := 5) (C := RX7) (T := TX7) (N := 7) rfl rfl (by decide) in_X7 wl_2_8 dX2_gateAhead_26 (?_ : Sd X 29 [(0, 12), (1, 0), (2, 17), (3, 0)] [0, 0] _)
  refine sd_icmp_ge (tgt := 41) hC dX2_gateAhead_29 rfl (?_ : Sd X 41 [(0, 12), (1, 0), (2, 17), (3, 0)] [] _) (?_ : Sd X 32 [(0, 12), (1, 0), (2, 17), (3, 0)] [] _)
  · refine sd_iconst hC dX2_gateAhead_41 ⟨by decide, by decide⟩ (?_ : Sd X 42 [(0, 12), (1, 0), (2, 17), (3, 0)] [0] _)
    exact Sd.weak (by decide) (S_42)
  · refine sd_aload_n hC 17 dX2_gateAhead_32 rfl (by decide) (by decide) (?_ : Sd X 33 [(0, 12), (1, 0), (2, 17), (3, 0)] [17] _)
    refine sd_get hC (ci := 7) (j := 6) (C := RX7) (T := TX7) (N := 7) rfl rfl (by decide) in_X7 wl_2_12 dX2_gateAhead_33 (?_ : Sd X 36 [(0, 12), (1, 0), (2, 17), (3, 0)] [100] _)
    refine sd_iload_n hC dX2_gateAhead_36 rfl (by decide) (?_ : Sd X 37 [(0, 12), (1, 0), (2, 17), (3, 0)] [0, 100] _)
    refine sd_iaload hC dX2_gateAhead_37 (?_ : Sd X 38 [(0, 12), (1, 0), (2, 17), (3, 0)] [0] _)
    refine sd_goto (tgt := 42) hC dX2_gateAhead_38 rfl (?_ : Sd X 42 [(0, 12), (1, 0), (2, 17), (3, 0)] [0] _)
    exact Sd.weak (by decide) (S_42)
theorem wl_4_127 : Cond.methodLink RX2 100 yX2_gateAhead ∈ WALL := tb4 (List.mem_of_getElem? (i := 127) rfl) rfl
theorem wl_4_129 : Cond.instanceMethod yX2_gateAhead ∈ WALL := tb4 (List.mem_of_getElem? (i := 129) rfl) rfl
theorem wp_48 : Cond.selects RX2 yX2_gateAhead yX2_gateAhead ∈ WALL := tbS (List.mem_of_getElem? (i := 48) rfl)
theorem wl_1_7 : Cond.initialized RX2 ∈ WALL := tb1 (List.mem_of_getElem? (i := 7) rfl) rfl
theorem wl_4_130 : Cond.code yX2_gateAhead cX2_gateAhead 4 (some .int) ∈ WALL := tb4 (List.mem_of_getElem? (i := 130) rfl) rfl
theorem wl_1_106 : Cond.fieldLink RX2 104 "NarrowRings$City" "gate" "[[I" ∈ WALL := tb1 (List.mem_of_getElem? (i := 106) rfl) rfl
theorem hd_X2_placeAhead : yX2_placeAhead.cls ≠ "java/lang/invoke/MethodHandle" ∧ yX2_placeAhead.cls ≠ "java/lang/invoke/VarHandle" ∧ (parseMethodDescriptor yX2_placeAhead.desc).map (fun d => d.parameters.length) = some 1 := by decide +kernel
set_option maxRecDepth 100000 in
set_option maxHeartbeats 4000000 in
theorem M_X2_placeAhead (l : Launch) : Mt l yX2_placeAhead (Cond.code yX2_placeAhead cX2_placeAhead 3 (some .int) :: WALL) { frames := 1, cells := 0, slots := 0, locals := 23 } [12, 0] (some 0) T_X2_placeAhead := by
  refine Mt.mk (B := E_X2_placeAhead) (by decide +kernel) (by decide) (fun _ _ _ hh => hh) ?_
  intro X Q e1 e2 e3 hC hN hT
  subst e1
  have hC : CF X cX2_placeAhead RX2 WALL := hC
  have S_43 : Sd X 43 [(0, 12), (1, 0), (2, 0)] [0] (B_X2_placeAhead_43 Q) := by
    unfold B_X2_placeAhead_43
    exact sd_ireturn hC hT dX2_placeAhead_43
  refine (?_ : Sd X 0 [(0, 12), (1, 0)] [] (E_X2_placeAhead Q))
  unfold E_X2_placeAhead
  refine sd_aload_n hC 12 dX2_placeAhead_0 rfl (by decide) (by decide) (?_ : Sd X 1 [(0, 12), (1, 0)] [12] _)
  refine sd_iload_n hC dX2_placeAhead_1 rfl (by decide) (?_ : Sd X 2 [(0, 12), (1, 0)] [0, 12] _)
  refine sd_inv0 (τ := []) (τr := [0]) (ci := 2) (q := (RX2, TX2, 10)) hC WG (M_X2_gateAhead _) rfl rfl rfl rfl  rfl rfl wl_4_127 wl_4_129 wp_48 wl_1_7 wl_4_130 hd_X2_gateAhead (by rw [e3]; decide) (by decide) dX2_placeAhead_2 (?_ : Sd X 5 [(0, 12), (1, 0)] [0] _)
  refine sd_istore_n (Γ' := [(0, 12), (1, 0), (2, 0)]) hC dX2_placeAhead_5 rfl (by rw [e2]; decide) (by decide) (?_ : Sd X 6 [(0, 12), (1, 0), (2, 0)] [] _)
  refine sd_iload_n hC dX2_placeAhead_6 rfl (by decide) (?_ : Sd X 7 [(0, 12), (1, 0), (2, 0)] [0] _)
  refine sd_iconst hC dX2_placeAhead_7 ⟨by decide, by decide⟩ (?_ : Sd X 8 [(0, 12), (1, 0), (2, 0)] [0, 0] _)
  refine sd_icmp_ne (tgt := 32) hC dX2_placeAhead_8 rfl (?_ : Sd X 32 [(0, 12), (1, 0), (2, 0)] [] _) (?_ : Sd X 11 [(0, 12), (1, 0), (2, 0)] [] _)
  · refine sd_aload_n hC 12 dX2_placeAhead_32 rfl (by decide) (by decide) (?_ : Sd X 33 [(0, 12), (1, 0), (2, 0)] [12] _)
    refine sd_get hC (ci := 2) (j := 8) (C := RX2) (T := TX2) (N := 10) rfl rfl (by decide) in_X2 wl_2_51 dX2_placeAhead_33 (?_ : Sd X 36 [(0, 12), (1, 0), (2, 0)] [11] _)
    refine sd_get hC (ci := 1) (j := 6) (C := RX1) (T := TX1) (N := 12) rfl rfl (by decide) in_X1 wl_1_106 dX2_placeAhead_36 (?_ : Sd X 39 [(0, 12), (1, 0), (2, 0)] [200] _)
    refine sd_iload_n hC dX2_placeAhead_39 rfl (by decide) (?_ : Sd X 40 [(0, 12), (1, 0), (2, 0)] [0, 200] _)
    refine sd_aaload (e := 100) hC (List.mem_of_getElem? (i := 7) rfl) rfl rfl dX2_placeAhead_40 (?_ : Sd X 41 [(0, 12), (1, 0), (2, 0)] [100] _)
    refine sd_iconst hC dX2_placeAhead_41 ⟨by decide, by decide⟩ (?_ : Sd X 42 [(0, 12), (1, 0), (2, 0)] [0, 100] _)
    refine sd_iaload hC dX2_placeAhead_42 (?_ : Sd X 43 [(0, 12), (1, 0), (2, 0)] [0] _)
    exact Sd.weak (by decide) (S_43)
  · refine sd_aload_n hC 12 dX2_placeAhead_11 rfl (by decide) (by decide) (?_ : Sd X 12 [(0, 12), (1, 0), (2, 0)] [12] _)
    refine sd_get hC (ci := 2) (j := 8) (C := RX2) (T := TX2) (N := 10) rfl rfl (by decide) in_X2 wl_2_51 dX2_placeAhead_12 (?_ : Sd X 15 [(0, 12), (1, 0), (2, 0)] [11] _)
    refine sd_get hC (ci := 1) (j := 9) (C := RX1) (T := TX1) (N := 12) rfl rfl (by decide) in_X1 wl_1_113 dX2_placeAhead_15 (?_ : Sd X 18 [(0, 12), (1, 0), (2, 0)] [200] _)
    refine sd_aload_n hC 12 dX2_placeAhead_18 rfl (by decide) (by decide) (?_ : Sd X 19 [(0, 12), (1, 0), (2, 0)] [12, 200] _)
    refine sd_get hC (ci := 2) (j := 2) (C := RX2) (T := TX2) (N := 10) rfl rfl (by decide) in_X2 wl_2_40 dX2_placeAhead_19 (?_ : Sd X 22 [(0, 12), (1, 0), (2, 0)] [200, 200] _)
    refine sd_iconst hC dX2_placeAhead_22 ⟨by decide, by decide⟩ (?_ : Sd X 23 [(0, 12), (1, 0), (2, 0)] [0, 200, 200] _)
    refine sd_aaload (e := 100) hC (List.mem_of_getElem? (i := 7) rfl) rfl rfl dX2_placeAhead_23 (?_ : Sd X 24 [(0, 12), (1, 0), (2, 0)] [100, 200] _)
    refine sd_iload_n hC dX2_placeAhead_24 rfl (by decide) (?_ : Sd X 25 [(0, 12), (1, 0), (2, 0)] [0, 100, 200] _)
    refine sd_iaload hC dX2_placeAhead_25 (?_ : Sd X 26 [(0, 12), (1, 0), (2, 0)] [0, 200] _)
    refine sd_aaload (e := 100) hC (List.mem_of_getElem? (i := 7) rfl) rfl rfl dX2_placeAhead_26 (?_ : Sd X 27 [(0, 12), (1, 0), (2, 0)] [100] _)
    refine sd_iconst hC dX2_placeAhead_27 ⟨by decide, by decide⟩ (?_ : Sd X 28 [(0, 12), (1, 0), (2, 0)] [0, 100] _)
    refine sd_iaload hC dX2_placeAhead_28 (?_ : Sd X 29 [(0, 12), (1, 0), (2, 0)] [0] _)
    refine sd_goto (tgt := 43) hC dX2_placeAhead_29 rfl (?_ : Sd X 43 [(0, 12), (1, 0), (2, 0)] [0] _)
    exact Sd.weak (by decide) (S_43)
theorem wl_2_36 : Cond.fieldLink RX2 42 "NarrowRings$Day" "hour" "I" ∈ WALL := tb2 (List.mem_of_getElem? (i := 36) rfl) rfl
theorem hd_X2_arrive : yX2_arrive.cls ≠ "java/lang/invoke/MethodHandle" ∧ yX2_arrive.cls ≠ "java/lang/invoke/VarHandle" ∧ (parseMethodDescriptor yX2_arrive.desc).map (fun d => d.parameters.length) = some 1 := by decide +kernel
set_option maxRecDepth 100000 in
set_option maxHeartbeats 4000000 in
theorem M_X2_arrive (l : Launch) : Mt l yX2_arrive (Cond.code yX2_arrive cX2_arrive 2 none :: WALL) { frames := 1, cells := 0, slots := 0, locals := 23 } [12, 0] none T_X2_arrive := by
  refine Mt.mk (B := E_X2_arrive) (by decide +kernel) (by decide) (fun _ _ _ hh => hh) ?_
  intro X Q e1 e2 e3 hC hN hT
  subst e1
  have hC : CF X cX2_arrive RX2 WALL := hC
  have S_56 : Sd X 56 [(0, 12), (1, 0)] [] (B_X2_arrive_56 Q) := by
    unfold B_X2_arrive_56
    exact sd_return hC hT dX2_arrive_56
  refine (?_ : Sd X 0 [(0, 12), (1, 0)] [] (E_X2_arrive Q))
  unfold E_X2_arrive
  refine sd_aload_n hC 12 dX2_arrive_0 rfl (by decide) (by decide) (?_ : Sd X 1 [(0, 12), (1, 0)] [12] _)
  refine sd_iload_n hC dX2_arrive_1 rfl (by decide) (?_ : Sd X 2 [(0, 12), (1, 0)] [0, 12] _)
  refine sd_inv0 (τ := []) (τr := [0]) (ci := 2) (q := (RX2, TX2, 10)) hC WG (M_X2_gateAhead _) rfl rfl rfl rfl  rfl rfl wl_4_127 wl_4_129 wp_48 wl_1_7 wl_4_130 hd_X2_gateAhead (by rw [e3]; decide) (by decide) dX2_arrive_2 (?_ : Sd X 5 [(0, 12), (1, 0)] [0] _)
  refine sd_iconst hC dX2_arrive_5 ⟨by decide, by decide⟩ (?_ : Sd X 6 [(0, 12), (1, 0)] [0, 0] _)
  refine sd_icmp_ne (tgt := 34) hC dX2_arrive_6 rfl (?_ : Sd X 34 [(0, 12), (1, 0)] [] _) (?_ : Sd X 9 [(0, 12), (1, 0)] [] _)
  · refine sd_aload_n hC 12 dX2_arrive_34 rfl (by decide) (by decide) (?_ : Sd X 35 [(0, 12), (1, 0)] [12] _)
    refine sd_get hC (ci := 2) (j := 2) (C := RX2) (T := TX2) (N := 10) rfl rfl (by decide) in_X2 wl_2_40 dX2_arrive_35 (?_ : Sd X 38 [(0, 12), (1, 0)] [200] _)
    refine sd_iconst hC dX2_arrive_38 ⟨by decide, by decide⟩ (?_ : Sd X 39 [(0, 12), (1, 0)] [0, 200] _)
    refine sd_aaload (e := 100) hC (List.mem_of_getElem? (i := 7) rfl) rfl rfl dX2_arrive_39 (?_ : Sd X 40 [(0, 12), (1, 0)] [100] _)
    refine sd_iload_n hC dX2_arrive_40 rfl (by decide) (?_ : Sd X 41 [(0, 12), (1, 0)] [0, 100] _)
    refine sd_iconst hC dX2_arrive_41 ⟨by decide, by decide⟩ (?_ : Sd X 42 [(0, 12), (1, 0)] [0, 0, 100] _)
    refine sd_iastore hC dX2_arrive_42 (?_ : Sd X 43 [(0, 12), (1, 0)] [] _)
    refine sd_aload_n hC 12 dX2_arrive_43 rfl (by decide) (by decide) (?_ : Sd X 44 [(0, 12), (1, 0)] [12] _)
    refine sd_get hC (ci := 2) (j := 2) (C := RX2) (T := TX2) (N := 10) rfl rfl (by decide) in_X2 wl_2_40 dX2_arrive_44 (?_ : Sd X 47 [(0, 12), (1, 0)] [200] _)
    refine sd_bipush hC dX2_arrive_47 (by decide) (?_ : Sd X 49 [(0, 12), (1, 0)] [0, 200] _)
    refine sd_aaload (e := 100) hC (List.mem_of_getElem? (i := 7) rfl) rfl rfl dX2_arrive_49 (?_ : Sd X 50 [(0, 12), (1, 0)] [100] _)
    refine sd_iload_n hC dX2_arrive_50 rfl (by decide) (?_ : Sd X 51 [(0, 12), (1, 0)] [0, 100] _)
    refine sd_aload_n hC 12 dX2_arrive_51 rfl (by decide) (by decide) (?_ : Sd X 52 [(0, 12), (1, 0)] [12, 0, 100] _)
    refine sd_get hC (ci := 2) (j := 0) (C := RX2) (T := TX2) (N := 10) rfl rfl (by decide) in_X2 wl_2_36 dX2_arrive_52 (?_ : Sd X 55 [(0, 12), (1, 0)] [0, 0, 100] _)
    refine sd_iastore hC dX2_arrive_55 (?_ : Sd X 56 [(0, 12), (1, 0)] [] _)
    exact Sd.weak (by decide) (S_56)
  · refine sd_aload_n hC 12 dX2_arrive_9 rfl (by decide) (by decide) (?_ : Sd X 10 [(0, 12), (1, 0)] [12] _)
    refine sd_get hC (ci := 2) (j := 2) (C := RX2) (T := TX2) (N := 10) rfl rfl (by decide) in_X2 wl_2_40 dX2_arrive_10 (?_ : Sd X 13 [(0, 12), (1, 0)] [200] _)
    refine sd_iconst hC dX2_arrive_13 ⟨by decide, by decide⟩ (?_ : Sd X 14 [(0, 12), (1, 0)] [0, 200] _)
    refine sd_aaload (e := 100) hC (List.mem_of_getElem? (i := 7) rfl) rfl rfl dX2_arrive_14 (?_ : Sd X 15 [(0, 12), (1, 0)] [100] _)
    refine sd_iload_n hC dX2_arrive_15 rfl (by decide) (?_ : Sd X 16 [(0, 12), (1, 0)] [0, 100] _)
    refine sd_iconst hC dX2_arrive_16 ⟨by decide, by decide⟩ (?_ : Sd X 17 [(0, 12), (1, 0)] [0, 0, 100] _)
    refine sd_iastore hC dX2_arrive_17 (?_ : Sd X 18 [(0, 12), (1, 0)] [] _)
    refine sd_aload_n hC 12 dX2_arrive_18 rfl (by decide) (by decide) (?_ : Sd X 19 [(0, 12), (1, 0)] [12] _)
    refine sd_get hC (ci := 2) (j := 2) (C := RX2) (T := TX2) (N := 10) rfl rfl (by decide) in_X2 wl_2_40 dX2_arrive_19 (?_ : Sd X 22 [(0, 12), (1, 0)] [200] _)
    refine sd_bipush hC dX2_arrive_22 (by decide) (?_ : Sd X 24 [(0, 12), (1, 0)] [0, 200] _)
    refine sd_aaload (e := 100) hC (List.mem_of_getElem? (i := 7) rfl) rfl rfl dX2_arrive_24 (?_ : Sd X 25 [(0, 12), (1, 0)] [100] _)
    refine sd_iload_n hC dX2_arrive_25 rfl (by decide) (?_ : Sd X 26 [(0, 12), (1, 0)] [0, 100] _)
    refine sd_aload_n hC 12 dX2_arrive_26 rfl (by decide) (by decide) (?_ : Sd X 27 [(0, 12), (1, 0)] [12, 0, 100] _)
    refine sd_get hC (ci := 2) (j := 0) (C := RX2) (T := TX2) (N := 10) rfl rfl (by decide) in_X2 wl_2_36 dX2_arrive_27 (?_ : Sd X 30 [(0, 12), (1, 0)] [0, 0, 100] _)
    refine sd_iastore hC dX2_arrive_30 (?_ : Sd X 31 [(0, 12), (1, 0)] [] _)
    refine sd_goto (tgt := 56) hC dX2_arrive_31 rfl (?_ : Sd X 56 [(0, 12), (1, 0)] [] _)
    exact Sd.weak (by decide) (S_56)
theorem wl_4_123 : Cond.methodLink RX2 112 yX2_placeAhead ∈ WALL := tb4 (List.mem_of_getElem? (i := 123) rfl) rfl
theorem wl_4_125 : Cond.instanceMethod yX2_placeAhead ∈ WALL := tb4 (List.mem_of_getElem? (i := 125) rfl) rfl
theorem wp_47 : Cond.selects RX2 yX2_placeAhead yX2_placeAhead ∈ WALL := tbS (List.mem_of_getElem? (i := 47) rfl)
theorem wl_4_126 : Cond.code yX2_placeAhead cX2_placeAhead 3 (some .int) ∈ WALL := tb4 (List.mem_of_getElem? (i := 126) rfl) rfl
theorem wl_4_131 : Cond.methodLink RX2 115 yX2_arrive ∈ WALL := tb4 (List.mem_of_getElem? (i := 131) rfl) rfl
theorem wl_4_133 : Cond.instanceMethod yX2_arrive ∈ WALL := tb4 (List.mem_of_getElem? (i := 133) rfl) rfl
theorem wp_49 : Cond.selects RX2 yX2_arrive yX2_arrive ∈ WALL := tbS (List.mem_of_getElem? (i := 49) rfl)
theorem wl_4_134 : Cond.code yX2_arrive cX2_arrive 2 none ∈ WALL := tb4 (List.mem_of_getElem? (i := 134) rfl) rfl
theorem wl_2_42 : Cond.fieldLink RX2 26 "NarrowRings$Day" "onCart" "[I" ∈ WALL := tb2 (List.mem_of_getElem? (i := 42) rfl) rfl
theorem hd_X2_leaveCart : yX2_leaveCart.cls ≠ "java/lang/invoke/MethodHandle" ∧ yX2_leaveCart.cls ≠ "java/lang/invoke/VarHandle" ∧ (parseMethodDescriptor yX2_leaveCart.desc).map (fun d => d.parameters.length) = some 1 := by decide +kernel
set_option maxRecDepth 100000 in
set_option maxHeartbeats 4000000 in
theorem M_X2_leaveCart (l : Launch) : Mt l yX2_leaveCart (Cond.code yX2_leaveCart cX2_leaveCart 3 none :: WALL) { frames := 2, cells := 0, slots := 0, locals := 45 } [12, 0] none T_X2_leaveCart := by
  refine Mt.mk (B := E_X2_leaveCart) (by decide +kernel) (by decide) (fun _ _ _ hh => hh) ?_
  intro X Q e1 e2 e3 hC hN hT
  subst e1
  have hC : CF X cX2_leaveCart RX2 WALL := hC
  have S_28 : Sd X 28 [(0, 12), (1, 0), (2, 0)] [] (B_X2_leaveCart_28 Q) := by
    unfold B_X2_leaveCart_28
    refine sd_aload_n hC 12 dX2_leaveCart_28 rfl (by decide) (by decide) (?_ : Sd X 29 [(0, 12), (1, 0), (2, 0)] [12] _)
    refine sd_get hC (ci := 2) (j := 2) (C := RX2) (T := TX2) (N := 10) rfl rfl (by decide) in_X2 wl_2_40 dX2_leaveCart_29 (?_ : Sd X 32 [(0, 12), (1, 0), (2, 0)] [200] _)
    refine sd_bipush hC dX2_leaveCart_32 (by decide) (?_ : Sd X 34 [(0, 12), (1, 0), (2, 0)] [0, 200] _)
    refine sd_aaload (e := 100) hC (List.mem_of_getElem? (i := 7) rfl) rfl rfl dX2_leaveCart_34 (?_ : Sd X 35 [(0, 12), (1, 0), (2, 0)] [100] _)
    refine sd_iload_n hC dX2_leaveCart_35 rfl (by decide) (?_ : Sd X 36 [(0, 12), (1, 0), (2, 0)] [0, 100] _)
    refine sd_bipush hC dX2_leaveCart_36 (by decide) (?_ : Sd X 38 [(0, 12), (1, 0), (2, 0)] [0, 0, 100] _)
    refine sd_iastore hC dX2_leaveCart_38 (?_ : Sd X 39 [(0, 12), (1, 0), (2, 0)] [] _)
    refine sd_aload_n hC 12 dX2_leaveCart_39 rfl (by decide) (by decide) (?_ : Sd X 40 [(0, 12), (1, 0), (2, 0)] [12] _)
    refine sd_get hC (ci := 2) (j := 2) (C := RX2) (T := TX2) (N := 10) rfl rfl (by decide) in_X2 wl_2_40 dX2_leaveCart_40 (?_ : Sd X 43 [(0, 12), (1, 0), (2, 0)] [200] _)
    refine sd_iconst hC dX2_leaveCart_43 ⟨by decide, by decide⟩ (?_ : Sd X 44 [(0, 12), (1, 0), (2, 0)] [0, 200] _)
    refine sd_aaload (e := 100) hC (List.mem_of_getElem? (i := 7) rfl) rfl rfl dX2_leaveCart_44 (?_ : Sd X 45 [(0, 12), (1, 0), (2, 0)] [100] _)
    refine sd_iload_n hC dX2_leaveCart_45 rfl (by decide) (?_ : Sd X 46 [(0, 12), (1, 0), (2, 0)] [0, 100] _)
    refine sd_aload_n hC 12 dX2_leaveCart_46 rfl (by decide) (by decide) (?_ : Sd X 47 [(0, 12), (1, 0), (2, 0)] [12, 0, 100] _)
    refine sd_iload_n hC dX2_leaveCart_47 rfl (by decide) (?_ : Sd X 48 [(0, 12), (1, 0), (2, 0)] [0, 12, 0, 100] _)
    refine sd_inv0 (τ := [0, 100]) (τr := [0]) (ci := 2) (q := (RX2, TX2, 10)) hC WG (M_X2_placeAhead _) rfl rfl rfl rfl  rfl rfl wl_4_123 wl_4_125 wp_47 wl_1_7 wl_4_126 hd_X2_placeAhead (by rw [e3]; decide) (by decide) dX2_leaveCart_48 (?_ : Sd X 51 [(0, 12), (1, 0), (2, 0)] [0, 0, 100] _)
    refine sd_iastore hC dX2_leaveCart_51 (?_ : Sd X 52 [(0, 12), (1, 0), (2, 0)] [] _)
    refine sd_aload_n hC 12 dX2_leaveCart_52 rfl (by decide) (by decide) (?_ : Sd X 53 [(0, 12), (1, 0), (2, 0)] [12] _)
    refine sd_iload_n hC dX2_leaveCart_53 rfl (by decide) (?_ : Sd X 54 [(0, 12), (1, 0), (2, 0)] [0, 12] _)
    refine sd_inv0v (τ := []) (τr := [0]) (ci := 2) (q := (RX2, TX2, 10)) hC WG (M_X2_arrive _) rfl rfl rfl rfl  rfl rfl wl_4_131 wl_4_133 wp_49 wl_1_7 wl_4_134 hd_X2_arrive (by rw [e3]; decide) (by decide) dX2_leaveCart_54 (?_ : Sd X 57 [(0, 12), (1, 0), (2, 0)] [] _)
    exact sd_return hC hT dX2_leaveCart_57
  refine (?_ : Sd X 0 [(0, 12), (1, 0)] [] (E_X2_leaveCart Q))
  unfold E_X2_leaveCart
  refine sd_aload_n hC 12 dX2_leaveCart_0 rfl (by decide) (by decide) (?_ : Sd X 1 [(0, 12), (1, 0)] [12] _)
  refine sd_get hC (ci := 2) (j := 2) (C := RX2) (T := TX2) (N := 10) rfl rfl (by decide) in_X2 wl_2_40 dX2_leaveCart_1 (?_ : Sd X 4 [(0, 12), (1, 0)] [200] _)
  refine sd_bipush hC dX2_leaveCart_4 (by decide) (?_ : Sd X 6 [(0, 12), (1, 0)] [0, 200] _)
  refine sd_aaload (e := 100) hC (List.mem_of_getElem? (i := 7) rfl) rfl rfl dX2_leaveCart_6 (?_ : Sd X 7 [(0, 12), (1, 0)] [100] _)
  refine sd_iload_n hC dX2_leaveCart_7 rfl (by decide) (?_ : Sd X 8 [(0, 12), (1, 0)] [0, 100] _)
  refine sd_iaload hC dX2_leaveCart_8 (?_ : Sd X 9 [(0, 12), (1, 0)] [0] _)
  refine sd_istore_n (Γ' := [(0, 12), (1, 0), (2, 0)]) hC dX2_leaveCart_9 rfl (by rw [e2]; decide) (by decide) (?_ : Sd X 10 [(0, 12), (1, 0), (2, 0)] [] _)
  refine sd_iload_n hC dX2_leaveCart_10 rfl (by decide) (?_ : Sd X 11 [(0, 12), (1, 0), (2, 0)] [0] _)
  refine sd_if_lt (tgt := 28) hC dX2_leaveCart_11 rfl (?_ : Sd X 28 [(0, 12), (1, 0), (2, 0)] [] _) (?_ : Sd X 14 [(0, 12), (1, 0), (2, 0)] [] _)
  · exact Sd.weak (by decide) (S_28)
  · refine sd_iload_n hC dX2_leaveCart_14 rfl (by decide) (?_ : Sd X 15 [(0, 12), (1, 0), (2, 0)] [0] _)
    refine sd_bipush hC dX2_leaveCart_15 (by decide) (?_ : Sd X 17 [(0, 12), (1, 0), (2, 0)] [0, 0] _)
    refine sd_icmp_ge (tgt := 28) hC dX2_leaveCart_17 rfl (?_ : Sd X 28 [(0, 12), (1, 0), (2, 0)] [] _) (?_ : Sd X 20 [(0, 12), (1, 0), (2, 0)] [] _)
    · exact Sd.weak (by decide) (S_28)
    · refine sd_aload_n hC 12 dX2_leaveCart_20 rfl (by decide) (by decide) (?_ : Sd X 21 [(0, 12), (1, 0), (2, 0)] [12] _)
      refine sd_get hC (ci := 2) (j := 3) (C := RX2) (T := TX2) (N := 10) rfl rfl (by decide) in_X2 wl_2_42 dX2_leaveCart_21 (?_ : Sd X 24 [(0, 12), (1, 0), (2, 0)] [100] _)
      refine sd_iload_n hC dX2_leaveCart_24 rfl (by decide) (?_ : Sd X 25 [(0, 12), (1, 0), (2, 0)] [0, 100] _)
      refine sd_bipush hC dX2_leaveCart_25 (by decide) (?_ : Sd X 27 [(0, 12), (1, 0), (2, 0)] [0, 0, 100] _)
      refine sd_iastore hC dX2_leaveCart_27 (?_ : Sd X 28 [(0, 12), (1, 0), (2, 0)] [] _)
      exact Sd.weak (by decide) (S_28)
theorem wl_2_44 : Cond.fieldLink RX2 30 "NarrowRings$Day" "atGate" "[I" ∈ WALL := tb2 (List.mem_of_getElem? (i := 44) rfl) rfl
theorem hd_X2_leaveGate : yX2_leaveGate.cls ≠ "java/lang/invoke/MethodHandle" ∧ yX2_leaveGate.cls ≠ "java/lang/invoke/VarHandle" ∧ (parseMethodDescriptor yX2_leaveGate.desc).map (fun d => d.parameters.length) = some 1 := by decide +kernel
set_option maxRecDepth 100000 in
set_option maxHeartbeats 4000000 in
theorem M_X2_leaveGate (l : Launch) : Mt l yX2_leaveGate (Cond.code yX2_leaveGate cX2_leaveGate 4 none :: WALL) { frames := 2, cells := 0, slots := 0, locals := 45 } [12, 0] none T_X2_leaveGate := by
  refine Mt.mk (B := E_X2_leaveGate) (by decide +kernel) (by decide) (fun _ _ _ hh => hh) ?_
  intro X Q e1 e2 e3 hC hN hT
  subst e1
  have hC : CF X cX2_leaveGate RX2 WALL := hC
  have S_111 : Sd X 111 [(0, 12), (1, 0), (2, 0), (3, 0)] [] (B_X2_leaveGate_111 Q) := by
    unfold B_X2_leaveGate_111
    exact sd_return hC hT dX2_leaveGate_111
  have S_58 : Sd X 58 [(0, 12), (1, 0), (2, 0), (3, 0)] [0, 0, 100] (B_X2_leaveGate_58 Q) := by
    unfold B_X2_leaveGate_58
    refine sd_iastore hC dX2_leaveGate_58 (?_ : Sd X 59 [(0, 12), (1, 0), (2, 0), (3, 0)] [] _)
    refine sd_aload_n hC 12 dX2_leaveGate_59 rfl (by decide) (by decide) (?_ : Sd X 60 [(0, 12), (1, 0), (2, 0), (3, 0)] [12] _)
    refine sd_get hC (ci := 2) (j := 2) (C := RX2) (T := TX2) (N := 10) rfl rfl (by decide) in_X2 wl_2_40 dX2_leaveGate_60 (?_ : Sd X 63 [(0, 12), (1, 0), (2, 0), (3, 0)] [200] _)
    refine sd_bipush hC dX2_leaveGate_63 (by decide) (?_ : Sd X 65 [(0, 12), (1, 0), (2, 0), (3, 0)] [0, 200] _)
    refine sd_aaload (e := 100) hC (List.mem_of_getElem? (i := 7) rfl) rfl rfl dX2_leaveGate_65 (?_ : Sd X 66 [(0, 12), (1, 0), (2, 0), (3, 0)] [100] _)
    refine sd_iload_n hC dX2_leaveGate_66 rfl (by decide) (?_ : Sd X 67 [(0, 12), (1, 0), (2, 0), (3, 0)] [0, 100] _)
    refine sd_dup2 hC (by decide) (by decide) dX2_leaveGate_67 (?_ : Sd X 68 [(0, 12), (1, 0), (2, 0), (3, 0)] [0, 100, 0, 100] _)
    refine sd_iaload hC dX2_leaveGate_68 (?_ : Sd X 69 [(0, 12), (1, 0), (2, 0), (3, 0)] [0, 0, 100] _)
    refine sd_iconst hC dX2_leaveGate_69 ⟨by decide, by decide⟩ (?_ : Sd X 70 [(0, 12), (1, 0), (2, 0), (3, 0)] [0, 0, 0, 100] _)
    refine sd_iadd hC dX2_leaveGate_70 (?_ : Sd X 71 [(0, 12), (1, 0), (2, 0), (3, 0)] [0, 0, 100] _)
    refine sd_iastore hC dX2_leaveGate_71 (?_ : Sd X 72 [(0, 12), (1, 0), (2, 0), (3, 0)] [] _)
    refine sd_aload_n hC 12 dX2_leaveGate_72 rfl (by decide) (by decide) (?_ : Sd X 73 [(0, 12), (1, 0), (2, 0), (3, 0)] [12] _)
    refine sd_get hC (ci := 2) (j := 2) (C := RX2) (T := TX2) (N := 10) rfl rfl (by decide) in_X2 wl_2_40 dX2_leaveGate_73 (?_ : Sd X 76 [(0, 12), (1, 0), (2, 0), (3, 0)] [200] _)
    refine sd_iconst hC dX2_leaveGate_76 ⟨by decide, by decide⟩ (?_ : Sd X 77 [(0, 12), (1, 0), (2, 0), (3, 0)] [0, 200] _)
    refine sd_aaload (e := 100) hC (List.mem_of_getElem? (i := 7) rfl) rfl rfl dX2_leaveGate_77 (?_ : Sd X 78 [(0, 12), (1, 0), (2, 0), (3, 0)] [100] _)
    refine sd_iload_n hC dX2_leaveGate_78 rfl (by decide) (?_ : Sd X 79 [(0, 12), (1, 0), (2, 0), (3, 0)] [0, 100] _)
    refine sd_iconst hC dX2_leaveGate_79 ⟨by decide, by decide⟩ (?_ : Sd X 80 [(0, 12), (1, 0), (2, 0), (3, 0)] [0, 0, 100] _)
    refine sd_iastore hC dX2_leaveGate_80 (?_ : Sd X 81 [(0, 12), (1, 0), (2, 0), (3, 0)] [] _)
    refine sd_aload_n hC 12 dX2_leaveGate_81 rfl (by decide) (by decide) (?_ : Sd X 82 [(0, 12), (1, 0), (2, 0), (3, 0)] [12] _)
    refine sd_iload_n hC dX2_leaveGate_82 rfl (by decide) (?_ : Sd X 83 [(0, 12), (1, 0), (2, 0), (3, 0)] [0, 12] _)
    refine sd_inv0 (τ := []) (τr := [0]) (ci := 2) (q := (RX2, TX2, 10)) hC WG (M_X2_gateAhead _) rfl rfl rfl rfl  rfl rfl wl_4_127 wl_4_129 wp_48 wl_1_7 wl_4_130 hd_X2_gateAhead (by rw [e3]; decide) (by decide) dX2_leaveGate_83 (?_ : Sd X 86 [(0, 12), (1, 0), (2, 0), (3, 0)] [0] _)
    refine sd_iconst hC dX2_leaveGate_86 ⟨by decide, by decide⟩ (?_ : Sd X 87 [(0, 12), (1, 0), (2, 0), (3, 0)] [0, 0] _)
    refine sd_icmp_ne (tgt := 111) hC dX2_leaveGate_87 rfl (?_ : Sd X 111 [(0, 12), (1, 0), (2, 0), (3, 0)] [] _) (?_ : Sd X 90 [(0, 12), (1, 0), (2, 0), (3, 0)] [] _)
    · exact Sd.weak (by decide) (S_111)
    · refine sd_aload_n hC 12 dX2_leaveGate_90 rfl (by decide) (by decide) (?_ : Sd X 91 [(0, 12), (1, 0), (2, 0), (3, 0)] [12] _)
      refine sd_get hC (ci := 2) (j := 2) (C := RX2) (T := TX2) (N := 10) rfl rfl (by decide) in_X2 wl_2_40 dX2_leaveGate_91 (?_ : Sd X 94 [(0, 12), (1, 0), (2, 0), (3, 0)] [200] _)
      refine sd_iconst hC dX2_leaveGate_94 ⟨by decide, by decide⟩ (?_ : Sd X 95 [(0, 12), (1, 0), (2, 0), (3, 0)] [0, 200] _)
      refine sd_aaload (e := 100) hC (List.mem_of_getElem? (i := 7) rfl) rfl rfl dX2_leaveGate_95 (?_ : Sd X 96 [(0, 12), (1, 0), (2, 0), (3, 0)] [100] _)
      refine sd_iload_n hC dX2_leaveGate_96 rfl (by decide) (?_ : Sd X 97 [(0, 12), (1, 0), (2, 0), (3, 0)] [0, 100] _)
      refine sd_iaload hC dX2_leaveGate_97 (?_ : Sd X 98 [(0, 12), (1, 0), (2, 0), (3, 0)] [0] _)
      refine sd_aload_n hC 12 dX2_leaveGate_98 rfl (by decide) (by decide) (?_ : Sd X 99 [(0, 12), (1, 0), (2, 0), (3, 0)] [12, 0] _)
      refine sd_iload_n hC dX2_leaveGate_99 rfl (by decide) (?_ : Sd X 100 [(0, 12), (1, 0), (2, 0), (3, 0)] [0, 12, 0] _)
      refine sd_inv0 (τ := [0]) (τr := [0]) (ci := 2) (q := (RX2, TX2, 10)) hC WG (M_X2_placeAhead _) rfl rfl rfl rfl  rfl rfl wl_4_123 wl_4_125 wp_47 wl_1_7 wl_4_126 hd_X2_placeAhead (by rw [e3]; decide) (by decide) dX2_leaveGate_100 (?_ : Sd X 103 [(0, 12), (1, 0), (2, 0), (3, 0)] [0, 0] _)
      refine sd_icmp_ne (tgt := 111) hC dX2_leaveGate_103 rfl (?_ : Sd X 111 [(0, 12), (1, 0), (2, 0), (3, 0)] [] _) (?_ : Sd X 106 [(0, 12), (1, 0), (2, 0), (3, 0)] [] _)
      · exact Sd.weak (by decide) (S_111)
      · refine sd_aload_n hC 12 dX2_leaveGate_106 rfl (by decide) (by decide) (?_ : Sd X 107 [(0, 12), (1, 0), (2, 0), (3, 0)] [12] _)
        refine sd_iload_n hC dX2_leaveGate_107 rfl (by decide) (?_ : Sd X 108 [(0, 12), (1, 0), (2, 0), (3, 0)] [0, 12] _)
        refine sd_inv0v (τ := []) (τr := [0]) (ci := 2) (q := (RX2, TX2, 10)) hC WG (M_X2_arrive _) rfl rfl rfl rfl  rfl rfl wl_4_131 wl_4_133 wp_49 wl_1_7 wl_4_134 hd_X2_arrive (by rw [e3]; decide) (by decide) dX2_leaveGate_108 (?_ : Sd X 111 [(0, 12), (1, 0), (2, 0), (3, 0)] [] _)
        exact Sd.weak (by decide) (S_111)
  refine (?_ : Sd X 0 [(0, 12), (1, 0)] [] (E_X2_leaveGate Q))
  unfold E_X2_leaveGate
  refine sd_aload_n hC 12 dX2_leaveGate_0 rfl (by decide) (by decide) (?_ : Sd X 1 [(0, 12), (1, 0)] [12] _)
  refine sd_iload_n hC dX2_leaveGate_1 rfl (by decide) (?_ : Sd X 2 [(0, 12), (1, 0)] [0, 12] _)
  refine sd_inv0 (τ := []) (τr := [0]) (ci := 2) (q := (RX2, TX2, 10)) hC WG (M_X2_gateAhead _) rfl rfl rfl rfl  rfl rfl wl_4_127 wl_4_129 wp_48 wl_1_7 wl_4_130 hd_X2_gateAhead (by rw [e3]; decide) (by decide) dX2_leaveGate_2 (?_ : Sd X 5 [(0, 12), (1, 0)] [0] _)
  refine sd_istore_n (Γ' := [(0, 12), (1, 0), (2, 0)]) hC dX2_leaveGate_5 rfl (by rw [e2]; decide) (by decide) (?_ : Sd X 6 [(0, 12), (1, 0), (2, 0)] [] _)
  refine sd_iload_n hC dX2_leaveGate_6 rfl (by decide) (?_ : Sd X 7 [(0, 12), (1, 0), (2, 0)] [0] _)
  refine sd_iconst hC dX2_leaveGate_7 ⟨by decide, by decide⟩ (?_ : Sd X 8 [(0, 12), (1, 0), (2, 0)] [0, 0] _)
  refine sd_icmp_ne (tgt := 12) hC dX2_leaveGate_8 rfl (?_ : Sd X 12 [(0, 12), (1, 0), (2, 0)] [] _) (?_ : Sd X 11 [(0, 12), (1, 0), (2, 0)] [] _)
  · refine sd_aload_n hC 12 dX2_leaveGate_12 rfl (by decide) (by decide) (?_ : Sd X 13 [(0, 12), (1, 0), (2, 0)] [12] _)
    refine sd_get hC (ci := 2) (j := 8) (C := RX2) (T := TX2) (N := 10) rfl rfl (by decide) in_X2 wl_2_51 dX2_leaveGate_13 (?_ : Sd X 16 [(0, 12), (1, 0), (2, 0)] [11] _)
    refine sd_get hC (ci := 1) (j := 6) (C := RX1) (T := TX1) (N := 12) rfl rfl (by decide) in_X1 wl_1_106 dX2_leaveGate_16 (?_ : Sd X 19 [(0, 12), (1, 0), (2, 0)] [200] _)
    refine sd_iload_n hC dX2_leaveGate_19 rfl (by decide) (?_ : Sd X 20 [(0, 12), (1, 0), (2, 0)] [0, 200] _)
    refine sd_aaload (e := 100) hC (List.mem_of_getElem? (i := 7) rfl) rfl rfl dX2_leaveGate_20 (?_ : Sd X 21 [(0, 12), (1, 0), (2, 0)] [100] _)
    refine sd_iconst hC dX2_leaveGate_21 ⟨by decide, by decide⟩ (?_ : Sd X 22 [(0, 12), (1, 0), (2, 0)] [0, 100] _)
    refine sd_iaload hC dX2_leaveGate_22 (?_ : Sd X 23 [(0, 12), (1, 0), (2, 0)] [0] _)
    refine sd_istore_n (Γ' := [(0, 12), (1, 0), (2, 0), (3, 0)]) hC dX2_leaveGate_23 rfl (by rw [e2]; decide) (by decide) (?_ : Sd X 24 [(0, 12), (1, 0), (2, 0), (3, 0)] [] _)
    refine sd_aload_n hC 12 dX2_leaveGate_24 rfl (by decide) (by decide) (?_ : Sd X 25 [(0, 12), (1, 0), (2, 0), (3, 0)] [12] _)
    refine sd_get hC (ci := 2) (j := 4) (C := RX2) (T := TX2) (N := 10) rfl rfl (by decide) in_X2 wl_2_44 dX2_leaveGate_25 (?_ : Sd X 28 [(0, 12), (1, 0), (2, 0), (3, 0)] [100] _)
    refine sd_iload_n hC dX2_leaveGate_28 rfl (by decide) (?_ : Sd X 29 [(0, 12), (1, 0), (2, 0), (3, 0)] [0, 100] _)
    refine sd_bipush hC dX2_leaveGate_29 (by decide) (?_ : Sd X 31 [(0, 12), (1, 0), (2, 0), (3, 0)] [0, 0, 100] _)
    refine sd_iastore hC dX2_leaveGate_31 (?_ : Sd X 32 [(0, 12), (1, 0), (2, 0), (3, 0)] [] _)
    refine sd_aload_n hC 12 dX2_leaveGate_32 rfl (by decide) (by decide) (?_ : Sd X 33 [(0, 12), (1, 0), (2, 0), (3, 0)] [12] _)
    refine sd_get hC (ci := 2) (j := 2) (C := RX2) (T := TX2) (N := 10) rfl rfl (by decide) in_X2 wl_2_40 dX2_leaveGate_33 (?_ : Sd X 36 [(0, 12), (1, 0), (2, 0), (3, 0)] [200] _)
    refine sd_iconst hC dX2_leaveGate_36 ⟨by decide, by decide⟩ (?_ : Sd X 37 [(0, 12), (1, 0), (2, 0), (3, 0)] [0, 200] _)
    refine sd_aaload (e := 100) hC (List.mem_of_getElem? (i := 7) rfl) rfl rfl dX2_leaveGate_37 (?_ : Sd X 38 [(0, 12), (1, 0), (2, 0), (3, 0)] [100] _)
    refine sd_iload_n hC dX2_leaveGate_38 rfl (by decide) (?_ : Sd X 39 [(0, 12), (1, 0), (2, 0), (3, 0)] [0, 100] _)
    refine sd_aload_n hC 12 dX2_leaveGate_39 rfl (by decide) (by decide) (?_ : Sd X 40 [(0, 12), (1, 0), (2, 0), (3, 0)] [12, 0, 100] _)
    refine sd_get hC (ci := 2) (j := 2) (C := RX2) (T := TX2) (N := 10) rfl rfl (by decide) in_X2 wl_2_40 dX2_leaveGate_40 (?_ : Sd X 43 [(0, 12), (1, 0), (2, 0), (3, 0)] [200, 0, 100] _)
    refine sd_iconst hC dX2_leaveGate_43 ⟨by decide, by decide⟩ (?_ : Sd X 44 [(0, 12), (1, 0), (2, 0), (3, 0)] [0, 200, 0, 100] _)
    refine sd_aaload (e := 100) hC (List.mem_of_getElem? (i := 7) rfl) rfl rfl dX2_leaveGate_44 (?_ : Sd X 45 [(0, 12), (1, 0), (2, 0), (3, 0)] [100, 0, 100] _)
    refine sd_iload_n hC dX2_leaveGate_45 rfl (by decide) (?_ : Sd X 46 [(0, 12), (1, 0), (2, 0), (3, 0)] [0, 100, 0, 100] _)
    refine sd_iaload hC dX2_leaveGate_46 (?_ : Sd X 47 [(0, 12), (1, 0), (2, 0), (3, 0)] [0, 0, 100] _)
    refine sd_iload_n hC dX2_leaveGate_47 rfl (by decide) (?_ : Sd X 48 [(0, 12), (1, 0), (2, 0), (3, 0)] [0, 0, 0, 100] _)
    refine sd_icmp_ne (tgt := 57) hC dX2_leaveGate_48 rfl (?_ : Sd X 57 [(0, 12), (1, 0), (2, 0), (3, 0)] [0, 100] _) (?_ : Sd X 51 [(0, 12), (1, 0), (2, 0), (3, 0)] [0, 100] _)
    · refine sd_iload_n hC dX2_leaveGate_57 rfl (by decide) (?_ : Sd X 58 [(0, 12), (1, 0), (2, 0), (3, 0)] [0, 0, 100] _)
      exact Sd.weak (by decide) (S_58)
    · refine sd_iload_n hC dX2_leaveGate_51 rfl (by decide) (?_ : Sd X 52 [(0, 12), (1, 0), (2, 0), (3, 0)] [0, 0, 100] _)
      refine sd_iconst hC dX2_leaveGate_52 ⟨by decide, by decide⟩ (?_ : Sd X 53 [(0, 12), (1, 0), (2, 0), (3, 0)] [0, 0, 0, 100] _)
      refine sd_iadd hC dX2_leaveGate_53 (?_ : Sd X 54 [(0, 12), (1, 0), (2, 0), (3, 0)] [0, 0, 100] _)
      refine sd_goto (tgt := 58) hC dX2_leaveGate_54 rfl (?_ : Sd X 58 [(0, 12), (1, 0), (2, 0), (3, 0)] [0, 0, 100] _)
      exact Sd.weak (by decide) (S_58)
  · exact sd_return hC hT dX2_leaveGate_11
theorem wl_4_135 : Cond.methodLink RX2 109 yX2_leaveGate ∈ WALL := tb4 (List.mem_of_getElem? (i := 135) rfl) rfl
theorem wl_4_137 : Cond.instanceMethod yX2_leaveGate ∈ WALL := tb4 (List.mem_of_getElem? (i := 137) rfl) rfl
theorem wp_50 : Cond.selects RX2 yX2_leaveGate yX2_leaveGate ∈ WALL := tbS (List.mem_of_getElem? (i := 50) rfl)
theorem wl_4_138 : Cond.code yX2_leaveGate cX2_leaveGate 4 none ∈ WALL := tb4 (List.mem_of_getElem? (i := 138) rfl) rfl
theorem wl_4_119 : Cond.methodLink RX2 106 yX2_leaveCart ∈ WALL := tb4 (List.mem_of_getElem? (i := 119) rfl) rfl
theorem wl_4_121 : Cond.instanceMethod yX2_leaveCart ∈ WALL := tb4 (List.mem_of_getElem? (i := 121) rfl) rfl
theorem wp_46 : Cond.selects RX2 yX2_leaveCart yX2_leaveCart ∈ WALL := tbS (List.mem_of_getElem? (i := 46) rfl)
theorem wl_4_122 : Cond.code yX2_leaveCart cX2_leaveCart 3 none ∈ WALL := tb4 (List.mem_of_getElem? (i := 122) rfl) rfl
theorem hd_X2_advance : yX2_advance.cls ≠ "java/lang/invoke/MethodHandle" ∧ yX2_advance.cls ≠ "java/lang/invoke/VarHandle" ∧ (parseMethodDescriptor yX2_advance.desc).map (fun d => d.parameters.length) = some 1 := by decide +kernel
set_option maxRecDepth 100000 in
set_option maxHeartbeats 4000000 in
theorem M_X2_advance (l : Launch) : Mt l yX2_advance (Cond.code yX2_advance cX2_advance 3 none :: WALL) { frames := 3, cells := 0, slots := 0, locals := 68 } [12, 0] none T_X2_advance := by
  refine Mt.mk (B := E_X2_advance) (by decide +kernel) (by decide) (fun _ _ _ hh => hh) ?_
  intro X Q e1 e2 e3 hC hN hT
  subst e1
  have hC : CF X cX2_advance RX2 WALL := hC
  have S_62 : Sd X 62 [(0, 12), (1, 0), (2, 0)] [] (B_X2_advance_62 Q) := by
    unfold B_X2_advance_62
    exact sd_return hC hT dX2_advance_62
  have S_20 : Sd X 20 [(0, 12), (1, 0), (2, 0)] [] (B_X2_advance_20 Q) := by
    unfold B_X2_advance_20
    refine sd_aload_n hC 12 dX2_advance_20 rfl (by decide) (by decide) (?_ : Sd X 21 [(0, 12), (1, 0), (2, 0)] [12] _)
    refine sd_get hC (ci := 2) (j := 2) (C := RX2) (T := TX2) (N := 10) rfl rfl (by decide) in_X2 wl_2_40 dX2_advance_21 (?_ : Sd X 24 [(0, 12), (1, 0), (2, 0)] [200] _)
    refine sd_iconst hC dX2_advance_24 ⟨by decide, by decide⟩ (?_ : Sd X 25 [(0, 12), (1, 0), (2, 0)] [0, 200] _)
    refine sd_aaload (e := 100) hC (List.mem_of_getElem? (i := 7) rfl) rfl rfl dX2_advance_25 (?_ : Sd X 26 [(0, 12), (1, 0), (2, 0)] [100] _)
    refine sd_iload_n hC dX2_advance_26 rfl (by decide) (?_ : Sd X 27 [(0, 12), (1, 0), (2, 0)] [0, 100] _)
    refine sd_dup2 hC (by decide) (by decide) dX2_advance_27 (?_ : Sd X 28 [(0, 12), (1, 0), (2, 0)] [0, 100, 0, 100] _)
    refine sd_iaload hC dX2_advance_28 (?_ : Sd X 29 [(0, 12), (1, 0), (2, 0)] [0, 0, 100] _)
    refine sd_iconst hC dX2_advance_29 ⟨by decide, by decide⟩ (?_ : Sd X 30 [(0, 12), (1, 0), (2, 0)] [0, 0, 0, 100] _)
    refine sd_isub hC dX2_advance_30 (?_ : Sd X 31 [(0, 12), (1, 0), (2, 0)] [0, 0, 100] _)
    refine sd_iastore hC dX2_advance_31 (?_ : Sd X 32 [(0, 12), (1, 0), (2, 0)] [] _)
    refine sd_aload_n hC 12 dX2_advance_32 rfl (by decide) (by decide) (?_ : Sd X 33 [(0, 12), (1, 0), (2, 0)] [12] _)
    refine sd_get hC (ci := 2) (j := 2) (C := RX2) (T := TX2) (N := 10) rfl rfl (by decide) in_X2 wl_2_40 dX2_advance_33 (?_ : Sd X 36 [(0, 12), (1, 0), (2, 0)] [200] _)
    refine sd_iconst hC dX2_advance_36 ⟨by decide, by decide⟩ (?_ : Sd X 37 [(0, 12), (1, 0), (2, 0)] [0, 200] _)
    refine sd_aaload (e := 100) hC (List.mem_of_getElem? (i := 7) rfl) rfl rfl dX2_advance_37 (?_ : Sd X 38 [(0, 12), (1, 0), (2, 0)] [100] _)
    refine sd_iload_n hC dX2_advance_38 rfl (by decide) (?_ : Sd X 39 [(0, 12), (1, 0), (2, 0)] [0, 100] _)
    refine sd_iaload hC dX2_advance_39 (?_ : Sd X 40 [(0, 12), (1, 0), (2, 0)] [0] _)
    refine sd_if_le (tgt := 44) hC dX2_advance_40 rfl (?_ : Sd X 44 [(0, 12), (1, 0), (2, 0)] [] _) (?_ : Sd X 43 [(0, 12), (1, 0), (2, 0)] [] _)
    · refine sd_iload_n hC dX2_advance_44 rfl (by decide) (?_ : Sd X 45 [(0, 12), (1, 0), (2, 0)] [0] _)
      refine sd_iconst hC dX2_advance_45 ⟨by decide, by decide⟩ (?_ : Sd X 46 [(0, 12), (1, 0), (2, 0)] [0, 0] _)
      refine sd_icmp_ne (tgt := 57) hC dX2_advance_46 rfl (?_ : Sd X 57 [(0, 12), (1, 0), (2, 0)] [] _) (?_ : Sd X 49 [(0, 12), (1, 0), (2, 0)] [] _)
      · refine sd_aload_n hC 12 dX2_advance_57 rfl (by decide) (by decide) (?_ : Sd X 58 [(0, 12), (1, 0), (2, 0)] [12] _)
        refine sd_iload_n hC dX2_advance_58 rfl (by decide) (?_ : Sd X 59 [(0, 12), (1, 0), (2, 0)] [0, 12] _)
        refine sd_inv0v (τ := []) (τr := [0]) (ci := 2) (q := (RX2, TX2, 10)) hC WG (M_X2_leaveGate _) rfl rfl rfl rfl  rfl rfl wl_4_135 wl_4_137 wp_50 wl_1_7 wl_4_138 hd_X2_leaveGate (by rw [e3]; decide) (by decide) dX2_advance_59 (?_ : Sd X 62 [(0, 12), (1, 0), (2, 0)] [] _)
        exact Sd.weak (by decide) (S_62)
      · refine sd_aload_n hC 12 dX2_advance_49 rfl (by decide) (by decide) (?_ : Sd X 50 [(0, 12), (1, 0), (2, 0)] [12] _)
        refine sd_iload_n hC dX2_advance_50 rfl (by decide) (?_ : Sd X 51 [(0, 12), (1, 0), (2, 0)] [0, 12] _)
        refine sd_inv0v (τ := []) (τr := [0]) (ci := 2) (q := (RX2, TX2, 10)) hC WG (M_X2_leaveCart _) rfl rfl rfl rfl  rfl rfl wl_4_119 wl_4_121 wp_46 wl_1_7 wl_4_122 hd_X2_leaveCart (by rw [e3]; decide) (by decide) dX2_advance_51 (?_ : Sd X 54 [(0, 12), (1, 0), (2, 0)] [] _)
        refine sd_goto (tgt := 62) hC dX2_advance_54 rfl (?_ : Sd X 62 [(0, 12), (1, 0), (2, 0)] [] _)
        exact Sd.weak (by decide) (S_62)
    · exact sd_return hC hT dX2_advance_43
  refine (?_ : Sd X 0 [(0, 12), (1, 0)] [] (E_X2_advance Q))
  unfold E_X2_advance
  refine sd_aload_n hC 12 dX2_advance_0 rfl (by decide) (by decide) (?_ : Sd X 1 [(0, 12), (1, 0)] [12] _)
  refine sd_get hC (ci := 2) (j := 2) (C := RX2) (T := TX2) (N := 10) rfl rfl (by decide) in_X2 wl_2_40 dX2_advance_1 (?_ : Sd X 4 [(0, 12), (1, 0)] [200] _)
  refine sd_iconst hC dX2_advance_4 ⟨by decide, by decide⟩ (?_ : Sd X 5 [(0, 12), (1, 0)] [0, 200] _)
  refine sd_aaload (e := 100) hC (List.mem_of_getElem? (i := 7) rfl) rfl rfl dX2_advance_5 (?_ : Sd X 6 [(0, 12), (1, 0)] [100] _)
  refine sd_iload_n hC dX2_advance_6 rfl (by decide) (?_ : Sd X 7 [(0, 12), (1, 0)] [0, 100] _)
  refine sd_iaload hC dX2_advance_7 (?_ : Sd X 8 [(0, 12), (1, 0)] [0] _)
  refine sd_istore_n (Γ' := [(0, 12), (1, 0), (2, 0)]) hC dX2_advance_8 rfl (by rw [e2]; decide) (by decide) (?_ : Sd X 9 [(0, 12), (1, 0), (2, 0)] [] _)
  refine sd_iload_n hC dX2_advance_9 rfl (by decide) (?_ : Sd X 10 [(0, 12), (1, 0), (2, 0)] [0] _)
  refine sd_iconst hC dX2_advance_10 ⟨by decide, by decide⟩ (?_ : Sd X 11 [(0, 12), (1, 0), (2, 0)] [0, 0] _)
  refine sd_icmp_eq (tgt := 20) hC dX2_advance_11 rfl (?_ : Sd X 20 [(0, 12), (1, 0), (2, 0)] [] _) (?_ : Sd X 14 [(0, 12), (1, 0), (2, 0)] [] _)
  · exact Sd.weak (by decide) (S_20)
  · refine sd_iload_n hC dX2_advance_14 rfl (by decide) (?_ : Sd X 15 [(0, 12), (1, 0), (2, 0)] [0] _)
    refine sd_iconst hC dX2_advance_15 ⟨by decide, by decide⟩ (?_ : Sd X 16 [(0, 12), (1, 0), (2, 0)] [0, 0] _)
    refine sd_icmp_eq (tgt := 20) hC dX2_advance_16 rfl (?_ : Sd X 20 [(0, 12), (1, 0), (2, 0)] [] _) (?_ : Sd X 19 [(0, 12), (1, 0), (2, 0)] [] _)
    · exact Sd.weak (by decide) (S_20)
    · exact sd_return hC hT dX2_advance_19
theorem hd_X2_allWaits : yX2_allWaits.cls ≠ "java/lang/invoke/MethodHandle" ∧ yX2_allWaits.cls ≠ "java/lang/invoke/VarHandle" ∧ (parseMethodDescriptor yX2_allWaits.desc).map (fun d => d.parameters.length) = some 0 := by decide +kernel
set_option maxRecDepth 100000 in
set_option maxHeartbeats 4000000 in
theorem M_X2_allWaits (l : Launch) : Mt l yX2_allWaits (Cond.code yX2_allWaits cX2_allWaits 3 (some .int) :: WALL) { frames := 0, cells := 0, slots := 0, locals := 0 } [12] (some 0) T_X2_allWaits := by
  refine Mt.mk (B := E_X2_allWaits) (by decide +kernel) (by decide) (fun _ _ _ hh => hh) ?_
  intro X Q e1 e2 e3 hC hN hT
  subst e1
  have hC : CF X cX2_allWaits RX2 WALL := hC
  have S_4 : Sd X 4 [(0, 12), (1, 0), (2, 0)] [] (L_X2_allWaits_4 Q) := by
    unfold L_X2_allWaits_4
    refine Sd.loop (fun k4 h4 => ?_)
    refine sd_iload_n hC dX2_allWaits_4 rfl (by decide) (?_ : Sd X 5 [(0, 12), (1, 0), (2, 0)] [0] _)
    refine sd_aload_n hC 12 dX2_allWaits_5 rfl (by decide) (by decide) (?_ : Sd X 6 [(0, 12), (1, 0), (2, 0)] [12, 0] _)
    refine sd_get hC (ci := 2) (j := 1) (C := RX2) (T := TX2) (N := 10) rfl rfl (by decide) in_X2 wl_2_38 dX2_allWaits_6 (?_ : Sd X 9 [(0, 12), (1, 0), (2, 0)] [0, 0] _)
    refine sd_icmp_ge (tgt := 29) hC dX2_allWaits_9 rfl (?_ : Sd X 29 [(0, 12), (1, 0), (2, 0)] [] _) (?_ : Sd X 12 [(0, 12), (1, 0), (2, 0)] [] _)
    · refine sd_iload_n hC dX2_allWaits_29 rfl (by decide) (?_ : Sd X 30 [(0, 12), (1, 0), (2, 0)] [0] _)
      exact sd_ireturn hC hT dX2_allWaits_30
    · refine sd_iload_n hC dX2_allWaits_12 rfl (by decide) (?_ : Sd X 13 [(0, 12), (1, 0), (2, 0)] [0] _)
      refine sd_aload_n hC 12 dX2_allWaits_13 rfl (by decide) (by decide) (?_ : Sd X 14 [(0, 12), (1, 0), (2, 0)] [12, 0] _)
      refine sd_get hC (ci := 2) (j := 2) (C := RX2) (T := TX2) (N := 10) rfl rfl (by decide) in_X2 wl_2_40 dX2_allWaits_14 (?_ : Sd X 17 [(0, 12), (1, 0), (2, 0)] [200, 0] _)
      refine sd_iconst hC dX2_allWaits_17 ⟨by decide, by decide⟩ (?_ : Sd X 18 [(0, 12), (1, 0), (2, 0)] [0, 200, 0] _)
      refine sd_aaload (e := 100) hC (List.mem_of_getElem? (i := 7) rfl) rfl rfl dX2_allWaits_18 (?_ : Sd X 19 [(0, 12), (1, 0), (2, 0)] [100, 0] _)
      refine sd_iload_n hC dX2_allWaits_19 rfl (by decide) (?_ : Sd X 20 [(0, 12), (1, 0), (2, 0)] [0, 100, 0] _)
      refine sd_iaload hC dX2_allWaits_20 (?_ : Sd X 21 [(0, 12), (1, 0), (2, 0)] [0, 0] _)
      refine sd_iadd hC dX2_allWaits_21 (?_ : Sd X 22 [(0, 12), (1, 0), (2, 0)] [0] _)
      refine sd_istore_n (Γ' := [(0, 12), (1, 0), (2, 0)]) hC dX2_allWaits_22 rfl (by rw [e2]; decide) (by decide) (?_ : Sd X 23 [(0, 12), (1, 0), (2, 0)] [] _)
      refine sd_iinc (Γ' := [(0, 12), (1, 0), (2, 0)]) hC dX2_allWaits_23 (by decide) (by rw [e2]; decide) (by decide) (?_ : Sd X 26 [(0, 12), (1, 0), (2, 0)] [] _)
      refine sd_goto (tgt := 4) hC dX2_allWaits_26 rfl (?_ : Sd X 4 [(0, 12), (1, 0), (2, 0)] [] _)
      exact Sd.weak (by decide) h4
  refine (?_ : Sd X 0 [(0, 12)] [] (E_X2_allWaits Q))
  unfold E_X2_allWaits
  refine sd_iconst hC dX2_allWaits_0 ⟨by decide, by decide⟩ (?_ : Sd X 1 [(0, 12)] [0] _)
  refine sd_istore_n (Γ' := [(0, 12), (1, 0)]) hC dX2_allWaits_1 rfl (by rw [e2]; decide) (by decide) (?_ : Sd X 2 [(0, 12), (1, 0)] [] _)
  refine sd_iconst hC dX2_allWaits_2 ⟨by decide, by decide⟩ (?_ : Sd X 3 [(0, 12), (1, 0)] [0] _)
  refine sd_istore_n (Γ' := [(0, 12), (1, 0), (2, 0)]) hC dX2_allWaits_3 rfl (by rw [e2]; decide) (by decide) (?_ : Sd X 4 [(0, 12), (1, 0), (2, 0)] [] _)
  exact Sd.weak (by decide) (S_4)

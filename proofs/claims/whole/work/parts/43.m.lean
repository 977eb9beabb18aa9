theorem hd_X10_opens : yX10_opens.cls ≠ "java/lang/invoke/MethodHandle" ∧ yX10_opens.cls ≠ "java/lang/invoke/VarHandle" ∧ (parseMethodDescriptor yX10_opens.desc).map (fun d => d.parameters.length) = some 1 := by decide +kernel
set_option maxRecDepth 100000 in
set_option maxHeartbeats 4000000 in
theorem M_X10_opens (l : Launch) : MtS l yX10_opens (Cond.code yX10_opens cX10_opens 4 none :: WALL) { frames := 2, cells := 0, slots := 0, locals := 43 } [20, 0] none T_X10_opens := by
  refine MtS.mk (B := E_X10_opens) (by decide +kernel) (by decide) (fun _ _ _ hh => hh) ?_
  intro X Q e1 e2 e3 hC hN hT
  subst e1
  have hC : CF X cX10_opens RX10 WALL := hC
  have S_81 : ∀ (k15 : xK), SdS X 15 [(0, 20), (1, 0), (2, 0), (3, 0)] [] k15 → SdS X 81 [(0, 20), (1, 0), (2, 0), (3, 0)] [] (B_X10_opens_81 Q k15) := by
    intro k15 h15
    unfold B_X10_opens_81
    refine su_iinc (Γ' := [(0, 20), (1, 0), (2, 0), (3, 0)]) hC dX10_opens_81 (by decide) (by rw [e2]; decide) (by decide) (?_ : SdS X 84 [(0, 20), (1, 0), (2, 0), (3, 0)] [] _)
    refine su_goto (tgt := 15) hC dX10_opens_84 rfl (?_ : SdS X 15 [(0, 20), (1, 0), (2, 0), (3, 0)] [] _)
    exact SdS.weak (by decide) h15
  have S_79 : ∀ (k15 : xK), SdS X 15 [(0, 20), (1, 0), (2, 0), (3, 0)] [] k15 → SdS X 79 [(0, 20), (1, 0), (2, 0), (3, 0)] [] (B_X10_opens_79 Q k15) := by
    intro k15 h15
    unfold B_X10_opens_79
    refine su_iload_n hC dX10_opens_79 rfl (by decide) (?_ : SdS X 80 [(0, 20), (1, 0), (2, 0), (3, 0)] [0] _)
    refine su_istore_n (Γ' := [(0, 20), (1, 0), (2, 0), (3, 0)]) hC dX10_opens_80 rfl (by rw [e2]; decide) (by decide) (?_ : SdS X 81 [(0, 20), (1, 0), (2, 0), (3, 0)] [] _)
    exact SdS.weak (by decide) (S_81 k15 h15)
  have S_15 : SdS X 15 [(0, 20), (1, 0), (2, 0), (3, 0)] [] (L_X10_opens_15 Q) := by
    unfold L_X10_opens_15
    refine SdS.loop (fun k15 h15 => ?_)
    refine su_iload_n hC dX10_opens_15 rfl (by decide) (?_ : SdS X 16 [(0, 20), (1, 0), (2, 0), (3, 0)] [0] _)
    refine su_aload_n hC 20 dX10_opens_16 rfl (by decide) (by decide) (?_ : SdS X 17 [(0, 20), (1, 0), (2, 0), (3, 0)] [20, 0] _)
    refine su_getF hC (ci := 10) (j := 38) (C := RX10) (T := TX10) (N := 45) rfl rfl (by decide) in_X10 wl_5_202 rfl dX10_opens_17 (?_ : SdS X 20 [(0, 20), (1, 0), (2, 0), (3, 0)] [0, 0] _)
    refine su_icmp_ge (tgt := 87) hC dX10_opens_20 rfl (?_ : SdS X 87 [(0, 20), (1, 0), (2, 0), (3, 0)] [] _) (?_ : SdS X 23 [(0, 20), (1, 0), (2, 0), (3, 0)] [] _)
    · refine su_iload_n hC dX10_opens_87 rfl (by decide) (?_ : SdS X 88 [(0, 20), (1, 0), (2, 0), (3, 0)] [0] _)
      refine su_iconst hC dX10_opens_88 ⟨by decide, by decide⟩ (?_ : SdS X 89 [(0, 20), (1, 0), (2, 0), (3, 0)] [0, 0] _)
      refine su_icmp_ne (tgt := 93) hC dX10_opens_89 rfl (?_ : SdS X 93 [(0, 20), (1, 0), (2, 0), (3, 0)] [] _) (?_ : SdS X 92 [(0, 20), (1, 0), (2, 0), (3, 0)] [] _)
      · refine su_aload_n hC 20 dX10_opens_93 rfl (by decide) (by decide) (?_ : SdS X 94 [(0, 20), (1, 0), (2, 0), (3, 0)] [20] _)
        refine su_getR hC (ci := 10) (j := 35) (C := RX10) (T := TX10) (N := 45) rfl rfl (by decide) in_X10 wl_5_199 rfl dX10_opens_94 (?_ : SdS X 97 [(0, 20), (1, 0), (2, 0), (3, 0)] [100] _)
        refine su_iload_n hC dX10_opens_97 rfl (by decide) (?_ : SdS X 98 [(0, 20), (1, 0), (2, 0), (3, 0)] [0, 100] _)
        refine su_iaload hC dX10_opens_98 (?_ : SdS X 99 [(0, 20), (1, 0), (2, 0), (3, 0)] [0] _)
        refine su_aload_n hC 20 dX10_opens_99 rfl (by decide) (by decide) (?_ : SdS X 100 [(0, 20), (1, 0), (2, 0), (3, 0)] [20, 0] _)
        refine su_iload_n hC dX10_opens_100 rfl (by decide) (?_ : SdS X 101 [(0, 20), (1, 0), (2, 0), (3, 0)] [0, 20, 0] _)
        refine su_iconst hC dX10_opens_101 ⟨by decide, by decide⟩ (?_ : SdS X 102 [(0, 20), (1, 0), (2, 0), (3, 0)] [0, 0, 20, 0] _)
        refine su_inv0 (τ := [0]) (τr := [0, 0]) (ci := 10) (q := (RX10, TX10, 45)) hC WG (M_X10_of _) rfl rfl rfl rfl  rfl rfl wl_7_131 wl_7_133 wp_96 wl_1_10 wl_7_134 hd_X10_of (by rw [e3]; decide) (by decide) dX10_opens_102 (?_ : SdS X 105 [(0, 20), (1, 0), (2, 0), (3, 0)] [0, 0] _)
        refine su_invs (τ := []) (τs := [0, 0]) hC false "" WG (M_X10_upwards _) rfl rfl rfl rfl wl_7_107 wl_7_108 wl_1_10 wl_7_109 hd_X10_upwards (by rw [e3]; decide) (by decide) dX10_opens_105 (?_ : SdS X 108 [(0, 20), (1, 0), (2, 0), (3, 0)] [0] _)
        refine su_istore_n (Γ' := [(0, 20), (1, 0), (2, 0), (3, 0)]) hC dX10_opens_108 rfl (by rw [e2]; decide) (by decide) (?_ : SdS X 109 [(0, 20), (1, 0), (2, 0), (3, 0)] [] _)
        refine su_aload_n hC 20 dX10_opens_109 rfl (by decide) (by decide) (?_ : SdS X 110 [(0, 20), (1, 0), (2, 0), (3, 0)] [20] _)
        refine su_getR hC (ci := 10) (j := 32) (C := RX10) (T := TX10) (N := 45) rfl rfl (by decide) in_X10 wl_5_196 rfl dX10_opens_110 (?_ : SdS X 113 [(0, 20), (1, 0), (2, 0), (3, 0)] [100] _)
        refine su_bipush hC dX10_opens_113 (by decide) (?_ : SdS X 115 [(0, 20), (1, 0), (2, 0), (3, 0)] [0, 100] _)
        refine su_iload_n hC dX10_opens_115 rfl (by decide) (?_ : SdS X 116 [(0, 20), (1, 0), (2, 0), (3, 0)] [0, 0, 100] _)
        refine su_imul hC dX10_opens_116 (?_ : SdS X 117 [(0, 20), (1, 0), (2, 0), (3, 0)] [0, 100] _)
        refine su_iconst hC dX10_opens_117 ⟨by decide, by decide⟩ (?_ : SdS X 118 [(0, 20), (1, 0), (2, 0), (3, 0)] [0, 0, 100] _)
        refine su_iadd hC dX10_opens_118 (?_ : SdS X 119 [(0, 20), (1, 0), (2, 0), (3, 0)] [0, 100] _)
        refine su_iconst hC dX10_opens_119 ⟨by decide, by decide⟩ (?_ : SdS X 120 [(0, 20), (1, 0), (2, 0), (3, 0)] [0, 0, 100] _)
        refine su_iastore hC dX10_opens_120 (?_ : SdS X 121 [(0, 20), (1, 0), (2, 0), (3, 0)] [] _)
        refine su_aload_n hC 20 dX10_opens_121 rfl (by decide) (by decide) (?_ : SdS X 122 [(0, 20), (1, 0), (2, 0), (3, 0)] [20] _)
        refine su_getR hC (ci := 10) (j := 32) (C := RX10) (T := TX10) (N := 45) rfl rfl (by decide) in_X10 wl_5_196 rfl dX10_opens_122 (?_ : SdS X 125 [(0, 20), (1, 0), (2, 0), (3, 0)] [100] _)
        refine su_bipush hC dX10_opens_125 (by decide) (?_ : SdS X 127 [(0, 20), (1, 0), (2, 0), (3, 0)] [0, 100] _)
        refine su_iload_n hC dX10_opens_127 rfl (by decide) (?_ : SdS X 128 [(0, 20), (1, 0), (2, 0), (3, 0)] [0, 0, 100] _)
        refine su_imul hC dX10_opens_128 (?_ : SdS X 129 [(0, 20), (1, 0), (2, 0), (3, 0)] [0, 100] _)
        refine su_iconst hC dX10_opens_129 ⟨by decide, by decide⟩ (?_ : SdS X 130 [(0, 20), (1, 0), (2, 0), (3, 0)] [0, 0, 100] _)
        refine su_iadd hC dX10_opens_130 (?_ : SdS X 131 [(0, 20), (1, 0), (2, 0), (3, 0)] [0, 100] _)
        refine su_iload_n hC dX10_opens_131 rfl (by decide) (?_ : SdS X 132 [(0, 20), (1, 0), (2, 0), (3, 0)] [0, 0, 100] _)
        refine su_iastore hC dX10_opens_132 (?_ : SdS X 133 [(0, 20), (1, 0), (2, 0), (3, 0)] [] _)
        refine su_aload_n hC 20 dX10_opens_133 rfl (by decide) (by decide) (?_ : SdS X 134 [(0, 20), (1, 0), (2, 0), (3, 0)] [20] _)
        refine su_getR hC (ci := 10) (j := 32) (C := RX10) (T := TX10) (N := 45) rfl rfl (by decide) in_X10 wl_5_196 rfl dX10_opens_134 (?_ : SdS X 137 [(0, 20), (1, 0), (2, 0), (3, 0)] [100] _)
        refine su_sipush hC dX10_opens_137 (by decide) (?_ : SdS X 140 [(0, 20), (1, 0), (2, 0), (3, 0)] [0, 100] _)
        refine su_iload_n hC dX10_opens_140 rfl (by decide) (?_ : SdS X 141 [(0, 20), (1, 0), (2, 0), (3, 0)] [0, 0, 100] _)
        refine su_iadd hC dX10_opens_141 (?_ : SdS X 142 [(0, 20), (1, 0), (2, 0), (3, 0)] [0, 100] _)
        refine su_dup2 hC (by decide) (by decide) dX10_opens_142 (?_ : SdS X 143 [(0, 20), (1, 0), (2, 0), (3, 0)] [0, 100, 0, 100] _)
        refine su_iaload hC dX10_opens_143 (?_ : SdS X 144 [(0, 20), (1, 0), (2, 0), (3, 0)] [0, 0, 100] _)
        refine su_aload_n hC 20 dX10_opens_144 rfl (by decide) (by decide) (?_ : SdS X 145 [(0, 20), (1, 0), (2, 0), (3, 0)] [20, 0, 0, 100] _)
        refine su_iload_n hC dX10_opens_145 rfl (by decide) (?_ : SdS X 146 [(0, 20), (1, 0), (2, 0), (3, 0)] [0, 20, 0, 0, 100] _)
        refine su_iconst hC dX10_opens_146 ⟨by decide, by decide⟩ (?_ : SdS X 147 [(0, 20), (1, 0), (2, 0), (3, 0)] [0, 0, 20, 0, 0, 100] _)
        refine su_inv0 (τ := [0, 0, 100]) (τr := [0, 0]) (ci := 10) (q := (RX10, TX10, 45)) hC WG (M_X10_of _) rfl rfl rfl rfl  rfl rfl wl_7_131 wl_7_133 wp_96 wl_1_10 wl_7_134 hd_X10_of (by rw [e3]; decide) (by decide) dX10_opens_147 (?_ : SdS X 150 [(0, 20), (1, 0), (2, 0), (3, 0)] [0, 0, 0, 100] _)
        refine su_iadd hC dX10_opens_150 (?_ : SdS X 151 [(0, 20), (1, 0), (2, 0), (3, 0)] [0, 0, 100] _)
        refine su_iastore hC dX10_opens_151 (?_ : SdS X 152 [(0, 20), (1, 0), (2, 0), (3, 0)] [] _)
        refine su_aload_n hC 20 dX10_opens_152 rfl (by decide) (by decide) (?_ : SdS X 153 [(0, 20), (1, 0), (2, 0), (3, 0)] [20] _)
        refine su_getR hC (ci := 10) (j := 32) (C := RX10) (T := TX10) (N := 45) rfl rfl (by decide) in_X10 wl_5_196 rfl dX10_opens_153 (?_ : SdS X 156 [(0, 20), (1, 0), (2, 0), (3, 0)] [100] _)
        refine su_sipush hC dX10_opens_156 (by decide) (?_ : SdS X 159 [(0, 20), (1, 0), (2, 0), (3, 0)] [0, 100] _)
        refine su_iload_n hC dX10_opens_159 rfl (by decide) (?_ : SdS X 160 [(0, 20), (1, 0), (2, 0), (3, 0)] [0, 0, 100] _)
        refine su_iadd hC dX10_opens_160 (?_ : SdS X 161 [(0, 20), (1, 0), (2, 0), (3, 0)] [0, 100] _)
        refine su_dup2 hC (by decide) (by decide) dX10_opens_161 (?_ : SdS X 162 [(0, 20), (1, 0), (2, 0), (3, 0)] [0, 100, 0, 100] _)
        refine su_iaload hC dX10_opens_162 (?_ : SdS X 163 [(0, 20), (1, 0), (2, 0), (3, 0)] [0, 0, 100] _)
        refine su_iload_n hC dX10_opens_163 rfl (by decide) (?_ : SdS X 164 [(0, 20), (1, 0), (2, 0), (3, 0)] [0, 0, 0, 100] _)
        refine su_aload_n hC 20 dX10_opens_164 rfl (by decide) (by decide) (?_ : SdS X 165 [(0, 20), (1, 0), (2, 0), (3, 0)] [20, 0, 0, 0, 100] _)
        refine su_iload_n hC dX10_opens_165 rfl (by decide) (?_ : SdS X 166 [(0, 20), (1, 0), (2, 0), (3, 0)] [0, 20, 0, 0, 0, 100] _)
        refine su_iconst hC dX10_opens_166 ⟨by decide, by decide⟩ (?_ : SdS X 167 [(0, 20), (1, 0), (2, 0), (3, 0)] [0, 0, 20, 0, 0, 0, 100] _)
        refine su_inv0 (τ := [0, 0, 0, 100]) (τr := [0, 0]) (ci := 10) (q := (RX10, TX10, 45)) hC WG (M_X10_of _) rfl rfl rfl rfl  rfl rfl wl_7_131 wl_7_133 wp_96 wl_1_10 wl_7_134 hd_X10_of (by rw [e3]; decide) (by decide) dX10_opens_167 (?_ : SdS X 170 [(0, 20), (1, 0), (2, 0), (3, 0)] [0, 0, 0, 0, 100] _)
        refine su_imul hC dX10_opens_170 (?_ : SdS X 171 [(0, 20), (1, 0), (2, 0), (3, 0)] [0, 0, 0, 100] _)
        refine su_iadd hC dX10_opens_171 (?_ : SdS X 172 [(0, 20), (1, 0), (2, 0), (3, 0)] [0, 0, 100] _)
        refine su_iastore hC dX10_opens_172 (?_ : SdS X 173 [(0, 20), (1, 0), (2, 0), (3, 0)] [] _)
        exact su_return hC hT dX10_opens_173
      · exact su_return hC hT dX10_opens_92
    · refine su_aload_n hC 20 dX10_opens_23 rfl (by decide) (by decide) (?_ : SdS X 24 [(0, 20), (1, 0), (2, 0), (3, 0)] [20] _)
      refine su_getR hC (ci := 10) (j := 32) (C := RX10) (T := TX10) (N := 45) rfl rfl (by decide) in_X10 wl_5_196 rfl dX10_opens_24 (?_ : SdS X 27 [(0, 20), (1, 0), (2, 0), (3, 0)] [100] _)
      refine su_bipush hC dX10_opens_27 (by decide) (?_ : SdS X 29 [(0, 20), (1, 0), (2, 0), (3, 0)] [0, 100] _)
      refine su_iload_n hC dX10_opens_29 rfl (by decide) (?_ : SdS X 30 [(0, 20), (1, 0), (2, 0), (3, 0)] [0, 0, 100] _)
      refine su_imul hC dX10_opens_30 (?_ : SdS X 31 [(0, 20), (1, 0), (2, 0), (3, 0)] [0, 100] _)
      refine su_iconst hC dX10_opens_31 ⟨by decide, by decide⟩ (?_ : SdS X 32 [(0, 20), (1, 0), (2, 0), (3, 0)] [0, 0, 100] _)
      refine su_iadd hC dX10_opens_32 (?_ : SdS X 33 [(0, 20), (1, 0), (2, 0), (3, 0)] [0, 100] _)
      refine su_iaload hC dX10_opens_33 (?_ : SdS X 34 [(0, 20), (1, 0), (2, 0), (3, 0)] [0] _)
      refine su_iconst hC dX10_opens_34 ⟨by decide, by decide⟩ (?_ : SdS X 35 [(0, 20), (1, 0), (2, 0), (3, 0)] [0, 0] _)
      refine su_icmp_ne (tgt := 81) hC dX10_opens_35 rfl (?_ : SdS X 81 [(0, 20), (1, 0), (2, 0), (3, 0)] [] _) (?_ : SdS X 38 [(0, 20), (1, 0), (2, 0), (3, 0)] [] _)
      · exact SdS.weak (by decide) (S_81 k15 h15)
      · refine su_aload_n hC 20 dX10_opens_38 rfl (by decide) (by decide) (?_ : SdS X 39 [(0, 20), (1, 0), (2, 0), (3, 0)] [20] _)
        refine su_iload_n hC dX10_opens_39 rfl (by decide) (?_ : SdS X 40 [(0, 20), (1, 0), (2, 0), (3, 0)] [0, 20] _)
        refine su_inv0 (τ := []) (τr := [0]) (ci := 10) (q := (RX10, TX10, 45)) hC WG (M_X10_gateNext _) rfl rfl rfl rfl  rfl rfl wl_8_43 wl_8_45 wp_118 wl_1_10 wl_8_46 hd_X10_gateNext (by rw [e3]; decide) (by decide) dX10_opens_40 (?_ : SdS X 43 [(0, 20), (1, 0), (2, 0), (3, 0)] [0] _)
        refine su_iload_n hC dX10_opens_43 rfl (by decide) (?_ : SdS X 44 [(0, 20), (1, 0), (2, 0), (3, 0)] [0, 0] _)
        refine su_icmp_ne (tgt := 81) hC dX10_opens_44 rfl (?_ : SdS X 81 [(0, 20), (1, 0), (2, 0), (3, 0)] [] _) (?_ : SdS X 47 [(0, 20), (1, 0), (2, 0), (3, 0)] [] _)
        · exact SdS.weak (by decide) (S_81 k15 h15)
        · refine su_iload_n hC dX10_opens_47 rfl (by decide) (?_ : SdS X 48 [(0, 20), (1, 0), (2, 0), (3, 0)] [0] _)
          refine su_iconst hC dX10_opens_48 ⟨by decide, by decide⟩ (?_ : SdS X 49 [(0, 20), (1, 0), (2, 0), (3, 0)] [0, 0] _)
          refine su_icmp_eq (tgt := 79) hC dX10_opens_49 rfl (?_ : SdS X 79 [(0, 20), (1, 0), (2, 0), (3, 0)] [] _) (?_ : SdS X 52 [(0, 20), (1, 0), (2, 0), (3, 0)] [] _)
          · exact SdS.weak (by decide) (S_79 k15 h15)
          · refine su_aload_n hC 20 dX10_opens_52 rfl (by decide) (by decide) (?_ : SdS X 53 [(0, 20), (1, 0), (2, 0), (3, 0)] [20] _)
            refine su_getR hC (ci := 10) (j := 32) (C := RX10) (T := TX10) (N := 45) rfl rfl (by decide) in_X10 wl_5_196 rfl dX10_opens_53 (?_ : SdS X 56 [(0, 20), (1, 0), (2, 0), (3, 0)] [100] _)
            refine su_bipush hC dX10_opens_56 (by decide) (?_ : SdS X 58 [(0, 20), (1, 0), (2, 0), (3, 0)] [0, 100] _)
            refine su_iload_n hC dX10_opens_58 rfl (by decide) (?_ : SdS X 59 [(0, 20), (1, 0), (2, 0), (3, 0)] [0, 0, 100] _)
            refine su_imul hC dX10_opens_59 (?_ : SdS X 60 [(0, 20), (1, 0), (2, 0), (3, 0)] [0, 100] _)
            refine su_bipush hC dX10_opens_60 (by decide) (?_ : SdS X 62 [(0, 20), (1, 0), (2, 0), (3, 0)] [0, 0, 100] _)
            refine su_iadd hC dX10_opens_62 (?_ : SdS X 63 [(0, 20), (1, 0), (2, 0), (3, 0)] [0, 100] _)
            refine su_iaload hC dX10_opens_63 (?_ : SdS X 64 [(0, 20), (1, 0), (2, 0), (3, 0)] [0] _)
            refine su_aload_n hC 20 dX10_opens_64 rfl (by decide) (by decide) (?_ : SdS X 65 [(0, 20), (1, 0), (2, 0), (3, 0)] [20, 0] _)
            refine su_getR hC (ci := 10) (j := 32) (C := RX10) (T := TX10) (N := 45) rfl rfl (by decide) in_X10 wl_5_196 rfl dX10_opens_65 (?_ : SdS X 68 [(0, 20), (1, 0), (2, 0), (3, 0)] [100, 0] _)
            refine su_bipush hC dX10_opens_68 (by decide) (?_ : SdS X 70 [(0, 20), (1, 0), (2, 0), (3, 0)] [0, 100, 0] _)
            refine su_iload_n hC dX10_opens_70 rfl (by decide) (?_ : SdS X 71 [(0, 20), (1, 0), (2, 0), (3, 0)] [0, 0, 100, 0] _)
            refine su_imul hC dX10_opens_71 (?_ : SdS X 72 [(0, 20), (1, 0), (2, 0), (3, 0)] [0, 100, 0] _)
            refine su_bipush hC dX10_opens_72 (by decide) (?_ : SdS X 74 [(0, 20), (1, 0), (2, 0), (3, 0)] [0, 0, 100, 0] _)
            refine su_iadd hC dX10_opens_74 (?_ : SdS X 75 [(0, 20), (1, 0), (2, 0), (3, 0)] [0, 100, 0] _)
            refine su_iaload hC dX10_opens_75 (?_ : SdS X 76 [(0, 20), (1, 0), (2, 0), (3, 0)] [0, 0] _)
            refine su_icmp_ge (tgt := 81) hC dX10_opens_76 rfl (?_ : SdS X 81 [(0, 20), (1, 0), (2, 0), (3, 0)] [] _) (?_ : SdS X 79 [(0, 20), (1, 0), (2, 0), (3, 0)] [] _)
            · exact SdS.weak (by decide) (S_81 k15 h15)
            · exact SdS.weak (by decide) (S_79 k15 h15)
  refine (?_ : SdS X 0 [(0, 20), (1, 0)] [] (E_X10_opens Q))
  unfold E_X10_opens
  refine su_aload_n hC 20 dX10_opens_0 rfl (by decide) (by decide) (?_ : SdS X 1 [(0, 20), (1, 0)] [20] _)
  refine su_iload_n hC dX10_opens_1 rfl (by decide) (?_ : SdS X 2 [(0, 20), (1, 0)] [0, 20] _)
  refine su_inv0 (τ := []) (τr := [0]) (ci := 10) (q := (RX10, TX10, 45)) hC WG (M_X10_busyAt _) rfl rfl rfl rfl  rfl rfl wl_8_55 wl_8_57 wp_121 wl_1_10 wl_8_58 hd_X10_busyAt (by rw [e3]; decide) (by decide) dX10_opens_2 (?_ : SdS X 5 [(0, 20), (1, 0)] [0] _)
  refine su_bipush hC dX10_opens_5 (by decide) (?_ : SdS X 7 [(0, 20), (1, 0)] [0, 0] _)
  refine su_icmp_eq (tgt := 11) hC dX10_opens_7 rfl (?_ : SdS X 11 [(0, 20), (1, 0)] [] _) (?_ : SdS X 10 [(0, 20), (1, 0)] [] _)
  · refine su_iconst hC dX10_opens_11 ⟨by decide, by decide⟩ (?_ : SdS X 12 [(0, 20), (1, 0)] [0] _)
    refine su_istore_n (Γ' := [(0, 20), (1, 0), (2, 0)]) hC dX10_opens_12 rfl (by rw [e2]; decide) (by decide) (?_ : SdS X 13 [(0, 20), (1, 0), (2, 0)] [] _)
    refine su_iconst hC dX10_opens_13 ⟨by decide, by decide⟩ (?_ : SdS X 14 [(0, 20), (1, 0), (2, 0)] [0] _)
    refine su_istore_n (Γ' := [(0, 20), (1, 0), (2, 0), (3, 0)]) hC dX10_opens_14 rfl (by rw [e2]; decide) (by decide) (?_ : SdS X 15 [(0, 20), (1, 0), (2, 0), (3, 0)] [] _)
    exact SdS.weak (by decide) (S_15)
  · exact su_return hC hT dX10_opens_10
theorem wl_8_59 : Cond.methodLink RX10 498 yX10_drives ∈ WALL := tb8 (List.mem_of_getElem? (i := 59) rfl) rfl
theorem wl_8_61 : Cond.instanceMethod yX10_drives ∈ WALL := tb8 (List.mem_of_getElem? (i := 61) rfl) rfl
theorem wp_122 : Cond.selects RX10 yX10_drives yX10_drives ∈ WALL := tbS (List.mem_of_getElem? (i := 122) rfl)
theorem wl_8_62 : Cond.code yX10_drives cX10_drives 4 none ∈ WALL := tb8 (List.mem_of_getElem? (i := 62) rfl) rfl
theorem wl_8_51 : Cond.methodLink RX10 495 yX10_opens ∈ WALL := tb8 (List.mem_of_getElem? (i := 51) rfl) rfl
theorem wl_8_53 : Cond.instanceMethod yX10_opens ∈ WALL := tb8 (List.mem_of_getElem? (i := 53) rfl) rfl
theorem wp_120 : Cond.selects RX10 yX10_opens yX10_opens ∈ WALL := tbS (List.mem_of_getElem? (i := 120) rfl)
theorem wl_8_54 : Cond.code yX10_opens cX10_opens 4 none ∈ WALL := tb8 (List.mem_of_getElem? (i := 54) rfl) rfl
theorem wl_8_31 : Cond.methodLink RX10 492 yX10_moves ∈ WALL := tb8 (List.mem_of_getElem? (i := 31) rfl) rfl
theorem wl_8_33 : Cond.instanceMethod yX10_moves ∈ WALL := tb8 (List.mem_of_getElem? (i := 33) rfl) rfl
theorem wp_115 : Cond.selects RX10 yX10_moves yX10_moves ∈ WALL := tbS (List.mem_of_getElem? (i := 115) rfl)
theorem wl_8_34 : Cond.code yX10_moves cX10_moves 4 none ∈ WALL := tb8 (List.mem_of_getElem? (i := 34) rfl) rfl
theorem hd_X10_passes : yX10_passes.cls ≠ "java/lang/invoke/MethodHandle" ∧ yX10_passes.cls ≠ "java/lang/invoke/VarHandle" ∧ (parseMethodDescriptor yX10_passes.desc).map (fun d => d.parameters.length) = some 0 := by decide +kernel
set_option maxRecDepth 100000 in
set_option maxHeartbeats 4000000 in
theorem M_X10_passes (l : Launch) : MtS l yX10_passes (Cond.code yX10_passes cX10_passes 2 none :: WALL) { frames := 3, cells := 0, slots := 0, locals := 66 } [20] none T_X10_passes := by
  refine MtS.mk (B := E_X10_passes) (by decide +kernel) (by decide) (fun _ _ _ hh => hh) ?_
  intro X Q e1 e2 e3 hC hN hT
  subst e1
  have hC : CF X cX10_passes RX10 WALL := hC
  have S_187 : ∀ (k132 : xK), SdS X 132 [(0, 20), (1, 0)] [] k132 → SdS X 187 [(0, 20), (1, 0)] [0, 0, 0, 100] (B_X10_passes_187 Q k132) := by
    intro k132 h132
    unfold B_X10_passes_187
    refine su_iadd hC dX10_passes_187 (?_ : SdS X 188 [(0, 20), (1, 0)] [0, 0, 100] _)
    refine su_iastore hC dX10_passes_188 (?_ : SdS X 189 [(0, 20), (1, 0)] [] _)
    refine su_iinc (Γ' := [(0, 20), (1, 0)]) hC dX10_passes_189 (by decide) (by rw [e2]; decide) (by decide) (?_ : SdS X 192 [(0, 20), (1, 0)] [] _)
    refine su_goto (tgt := 132) hC dX10_passes_192 rfl (?_ : SdS X 132 [(0, 20), (1, 0)] [] _)
    exact SdS.weak (by decide) h132
  have S_182 : ∀ (k132 : xK), SdS X 132 [(0, 20), (1, 0)] [] k132 → SdS X 182 [(0, 20), (1, 0)] [0, 0, 100] (B_X10_passes_182 Q k132) := by
    intro k132 h132
    unfold B_X10_passes_182
    refine su_iconst hC dX10_passes_182 ⟨by decide, by decide⟩ (?_ : SdS X 183 [(0, 20), (1, 0)] [0, 0, 0, 100] _)
    refine su_goto (tgt := 187) hC dX10_passes_183 rfl (?_ : SdS X 187 [(0, 20), (1, 0)] [0, 0, 0, 100] _)
    exact SdS.weak (by decide) (S_187 k132 h132)
  have S_132 : SdS X 132 [(0, 20), (1, 0)] [] (L_X10_passes_132 Q) := by
    unfold L_X10_passes_132
    refine SdS.loop (fun k132 h132 => ?_)
    refine su_iload_n hC dX10_passes_132 rfl (by decide) (?_ : SdS X 133 [(0, 20), (1, 0)] [0] _)
    refine su_aload_n hC 20 dX10_passes_133 rfl (by decide) (by decide) (?_ : SdS X 134 [(0, 20), (1, 0)] [20, 0] _)
    refine su_getF hC (ci := 10) (j := 38) (C := RX10) (T := TX10) (N := 45) rfl rfl (by decide) in_X10 wl_5_202 rfl dX10_passes_134 (?_ : SdS X 137 [(0, 20), (1, 0)] [0, 0] _)
    refine su_icmp_ge (tgt := 195) hC dX10_passes_137 rfl (?_ : SdS X 195 [(0, 20), (1, 0)] [] _) (?_ : SdS X 140 [(0, 20), (1, 0)] [] _)
    · refine su_aload_n hC 20 dX10_passes_195 rfl (by decide) (by decide) (?_ : SdS X 196 [(0, 20), (1, 0)] [20] _)
      refine su_getR hC (ci := 10) (j := 32) (C := RX10) (T := TX10) (N := 45) rfl rfl (by decide) in_X10 wl_5_196 rfl dX10_passes_196 (?_ : SdS X 199 [(0, 20), (1, 0)] [100] _)
      refine su_sipush hC dX10_passes_199 (by decide) (?_ : SdS X 202 [(0, 20), (1, 0)] [0, 100] _)
      refine su_dup2 hC (by decide) (by decide) dX10_passes_202 (?_ : SdS X 203 [(0, 20), (1, 0)] [0, 100, 0, 100] _)
      refine su_iaload hC dX10_passes_203 (?_ : SdS X 204 [(0, 20), (1, 0)] [0, 0, 100] _)
      refine su_iconst hC dX10_passes_204 ⟨by decide, by decide⟩ (?_ : SdS X 205 [(0, 20), (1, 0)] [0, 0, 0, 100] _)
      refine su_iadd hC dX10_passes_205 (?_ : SdS X 206 [(0, 20), (1, 0)] [0, 0, 100] _)
      refine su_iastore hC dX10_passes_206 (?_ : SdS X 207 [(0, 20), (1, 0)] [] _)
      exact su_return hC hT dX10_passes_207
    · refine su_aload_n hC 20 dX10_passes_140 rfl (by decide) (by decide) (?_ : SdS X 141 [(0, 20), (1, 0)] [20] _)
      refine su_getR hC (ci := 10) (j := 32) (C := RX10) (T := TX10) (N := 45) rfl rfl (by decide) in_X10 wl_5_196 rfl dX10_passes_141 (?_ : SdS X 144 [(0, 20), (1, 0)] [100] _)
      refine su_bipush hC dX10_passes_144 (by decide) (?_ : SdS X 146 [(0, 20), (1, 0)] [0, 100] _)
      refine su_iload_n hC dX10_passes_146 rfl (by decide) (?_ : SdS X 147 [(0, 20), (1, 0)] [0, 0, 100] _)
      refine su_imul hC dX10_passes_147 (?_ : SdS X 148 [(0, 20), (1, 0)] [0, 100] _)
      refine su_iconst hC dX10_passes_148 ⟨by decide, by decide⟩ (?_ : SdS X 149 [(0, 20), (1, 0)] [0, 0, 100] _)
      refine su_iadd hC dX10_passes_149 (?_ : SdS X 150 [(0, 20), (1, 0)] [0, 100] _)
      refine su_dup2 hC (by decide) (by decide) dX10_passes_150 (?_ : SdS X 151 [(0, 20), (1, 0)] [0, 100, 0, 100] _)
      refine su_iaload hC dX10_passes_151 (?_ : SdS X 152 [(0, 20), (1, 0)] [0, 0, 100] _)
      refine su_aload_n hC 20 dX10_passes_152 rfl (by decide) (by decide) (?_ : SdS X 153 [(0, 20), (1, 0)] [20, 0, 0, 100] _)
      refine su_getR hC (ci := 10) (j := 32) (C := RX10) (T := TX10) (N := 45) rfl rfl (by decide) in_X10 wl_5_196 rfl dX10_passes_153 (?_ : SdS X 156 [(0, 20), (1, 0)] [100, 0, 0, 100] _)
      refine su_bipush hC dX10_passes_156 (by decide) (?_ : SdS X 158 [(0, 20), (1, 0)] [0, 100, 0, 0, 100] _)
      refine su_iload_n hC dX10_passes_158 rfl (by decide) (?_ : SdS X 159 [(0, 20), (1, 0)] [0, 0, 100, 0, 0, 100] _)
      refine su_imul hC dX10_passes_159 (?_ : SdS X 160 [(0, 20), (1, 0)] [0, 100, 0, 0, 100] _)
      refine su_iconst hC dX10_passes_160 ⟨by decide, by decide⟩ (?_ : SdS X 161 [(0, 20), (1, 0)] [0, 0, 100, 0, 0, 100] _)
      refine su_iadd hC dX10_passes_161 (?_ : SdS X 162 [(0, 20), (1, 0)] [0, 100, 0, 0, 100] _)
      refine su_iaload hC dX10_passes_162 (?_ : SdS X 163 [(0, 20), (1, 0)] [0, 0, 0, 100] _)
      refine su_iconst hC dX10_passes_163 ⟨by decide, by decide⟩ (?_ : SdS X 164 [(0, 20), (1, 0)] [0, 0, 0, 0, 100] _)
      refine su_icmp_eq (tgt := 182) hC dX10_passes_164 rfl (?_ : SdS X 182 [(0, 20), (1, 0)] [0, 0, 100] _) (?_ : SdS X 167 [(0, 20), (1, 0)] [0, 0, 100] _)
      · exact SdS.weak (by decide) (S_182 k132 h132)
      · refine su_aload_n hC 20 dX10_passes_167 rfl (by decide) (by decide) (?_ : SdS X 168 [(0, 20), (1, 0)] [20, 0, 0, 100] _)
        refine su_getR hC (ci := 10) (j := 32) (C := RX10) (T := TX10) (N := 45) rfl rfl (by decide) in_X10 wl_5_196 rfl dX10_passes_168 (?_ : SdS X 171 [(0, 20), (1, 0)] [100, 0, 0, 100] _)
        refine su_bipush hC dX10_passes_171 (by decide) (?_ : SdS X 173 [(0, 20), (1, 0)] [0, 100, 0, 0, 100] _)
        refine su_iload_n hC dX10_passes_173 rfl (by decide) (?_ : SdS X 174 [(0, 20), (1, 0)] [0, 0, 100, 0, 0, 100] _)
        refine su_imul hC dX10_passes_174 (?_ : SdS X 175 [(0, 20), (1, 0)] [0, 100, 0, 0, 100] _)
        refine su_iconst hC dX10_passes_175 ⟨by decide, by decide⟩ (?_ : SdS X 176 [(0, 20), (1, 0)] [0, 0, 100, 0, 0, 100] _)
        refine su_iadd hC dX10_passes_176 (?_ : SdS X 177 [(0, 20), (1, 0)] [0, 100, 0, 0, 100] _)
        refine su_iaload hC dX10_passes_177 (?_ : SdS X 178 [(0, 20), (1, 0)] [0, 0, 0, 100] _)
        refine su_iconst hC dX10_passes_178 ⟨by decide, by decide⟩ (?_ : SdS X 179 [(0, 20), (1, 0)] [0, 0, 0, 0, 100] _)
        refine su_icmp_ne (tgt := 186) hC dX10_passes_179 rfl (?_ : SdS X 186 [(0, 20), (1, 0)] [0, 0, 100] _) (?_ : SdS X 182 [(0, 20), (1, 0)] [0, 0, 100] _)
        · refine su_iconst hC dX10_passes_186 ⟨by decide, by decide⟩ (?_ : SdS X 187 [(0, 20), (1, 0)] [0, 0, 0, 100] _)
          exact SdS.weak (by decide) (S_187 k132 h132)
        · exact SdS.weak (by decide) (S_182 k132 h132)
  have S_111 : SdS X 111 [(0, 20), (1, 0)] [] (L_X10_passes_111 Q) := by
    unfold L_X10_passes_111
    refine SdS.loop (fun k111 h111 => ?_)
    refine su_iload_n hC dX10_passes_111 rfl (by decide) (?_ : SdS X 112 [(0, 20), (1, 0)] [0] _)
    refine su_aload_n hC 20 dX10_passes_112 rfl (by decide) (by decide) (?_ : SdS X 113 [(0, 20), (1, 0)] [20, 0] _)
    refine su_getF hC (ci := 10) (j := 38) (C := RX10) (T := TX10) (N := 45) rfl rfl (by decide) in_X10 wl_5_202 rfl dX10_passes_113 (?_ : SdS X 116 [(0, 20), (1, 0)] [0, 0] _)
    refine su_icmp_ge (tgt := 130) hC dX10_passes_116 rfl (?_ : SdS X 130 [(0, 20), (1, 0)] [] _) (?_ : SdS X 119 [(0, 20), (1, 0)] [] _)
    · refine su_iconst hC dX10_passes_130 ⟨by decide, by decide⟩ (?_ : SdS X 131 [(0, 20), (1, 0)] [0] _)
      refine su_istore_n (Γ' := [(0, 20), (1, 0)]) hC dX10_passes_131 rfl (by rw [e2]; decide) (by decide) (?_ : SdS X 132 [(0, 20), (1, 0)] [] _)
      exact SdS.weak (by decide) (S_132)
    · refine su_aload_n hC 20 dX10_passes_119 rfl (by decide) (by decide) (?_ : SdS X 120 [(0, 20), (1, 0)] [20] _)
      refine su_iload_n hC dX10_passes_120 rfl (by decide) (?_ : SdS X 121 [(0, 20), (1, 0)] [0, 20] _)
      refine su_inv0v (τ := []) (τr := [0]) (ci := 10) (q := (RX10, TX10, 45)) hC WG (M_X10_drives _) rfl rfl rfl rfl  rfl rfl wl_8_59 wl_8_61 wp_122 wl_1_10 wl_8_62 hd_X10_drives (by rw [e3]; decide) (by decide) dX10_passes_121 (?_ : SdS X 124 [(0, 20), (1, 0)] [] _)
      refine su_iinc (Γ' := [(0, 20), (1, 0)]) hC dX10_passes_124 (by decide) (by rw [e2]; decide) (by decide) (?_ : SdS X 127 [(0, 20), (1, 0)] [] _)
      refine su_goto (tgt := 111) hC dX10_passes_127 rfl (?_ : SdS X 111 [(0, 20), (1, 0)] [] _)
      exact SdS.weak (by decide) h111
  have S_103 : ∀ (k44 : xK), SdS X 44 [(0, 20), (1, 0)] [] k44 → SdS X 103 [(0, 20), (1, 0)] [] (B_X10_passes_103 Q k44) := by
    intro k44 h44
    unfold B_X10_passes_103
    refine su_iinc (Γ' := [(0, 20), (1, 0)]) hC dX10_passes_103 (by decide) (by rw [e2]; decide) (by decide) (?_ : SdS X 106 [(0, 20), (1, 0)] [] _)
    refine su_goto (tgt := 44) hC dX10_passes_106 rfl (?_ : SdS X 44 [(0, 20), (1, 0)] [] _)
    exact SdS.weak (by decide) h44
  have S_44 : SdS X 44 [(0, 20), (1, 0)] [] (L_X10_passes_44 Q) := by
    unfold L_X10_passes_44
    refine SdS.loop (fun k44 h44 => ?_)
    refine su_iload_n hC dX10_passes_44 rfl (by decide) (?_ : SdS X 45 [(0, 20), (1, 0)] [0] _)
    refine su_aload_n hC 20 dX10_passes_45 rfl (by decide) (by decide) (?_ : SdS X 46 [(0, 20), (1, 0)] [20, 0] _)
    refine su_getF hC (ci := 10) (j := 38) (C := RX10) (T := TX10) (N := 45) rfl rfl (by decide) in_X10 wl_5_202 rfl dX10_passes_46 (?_ : SdS X 49 [(0, 20), (1, 0)] [0, 0] _)
    refine su_icmp_ge (tgt := 109) hC dX10_passes_49 rfl (?_ : SdS X 109 [(0, 20), (1, 0)] [] _) (?_ : SdS X 52 [(0, 20), (1, 0)] [] _)
    · refine su_iconst hC dX10_passes_109 ⟨by decide, by decide⟩ (?_ : SdS X 110 [(0, 20), (1, 0)] [0] _)
      refine su_istore_n (Γ' := [(0, 20), (1, 0)]) hC dX10_passes_110 rfl (by rw [e2]; decide) (by decide) (?_ : SdS X 111 [(0, 20), (1, 0)] [] _)
      exact SdS.weak (by decide) (S_111)
    · refine su_aload_n hC 20 dX10_passes_52 rfl (by decide) (by decide) (?_ : SdS X 53 [(0, 20), (1, 0)] [20] _)
      refine su_getR hC (ci := 10) (j := 32) (C := RX10) (T := TX10) (N := 45) rfl rfl (by decide) in_X10 wl_5_196 rfl dX10_passes_53 (?_ : SdS X 56 [(0, 20), (1, 0)] [100] _)
      refine su_bipush hC dX10_passes_56 (by decide) (?_ : SdS X 58 [(0, 20), (1, 0)] [0, 100] _)
      refine su_iload_n hC dX10_passes_58 rfl (by decide) (?_ : SdS X 59 [(0, 20), (1, 0)] [0, 0, 100] _)
      refine su_imul hC dX10_passes_59 (?_ : SdS X 60 [(0, 20), (1, 0)] [0, 100] _)
      refine su_iconst hC dX10_passes_60 ⟨by decide, by decide⟩ (?_ : SdS X 61 [(0, 20), (1, 0)] [0, 0, 100] _)
      refine su_iadd hC dX10_passes_61 (?_ : SdS X 62 [(0, 20), (1, 0)] [0, 100] _)
      refine su_iaload hC dX10_passes_62 (?_ : SdS X 63 [(0, 20), (1, 0)] [0] _)
      refine su_if_ne (tgt := 103) hC dX10_passes_63 rfl (?_ : SdS X 103 [(0, 20), (1, 0)] [] _) (?_ : SdS X 66 [(0, 20), (1, 0)] [] _)
      · exact SdS.weak (by decide) (S_103 k44 h44)
      · refine su_aload_n hC 20 dX10_passes_66 rfl (by decide) (by decide) (?_ : SdS X 67 [(0, 20), (1, 0)] [20] _)
        refine su_getR hC (ci := 10) (j := 3) (C := RX10) (T := TX10) (N := 45) rfl rfl (by decide) in_X10 wl_5_167 rfl dX10_passes_67 (?_ : SdS X 70 [(0, 20), (1, 0)] [19] _)
        refine su_getRN hC (ci := 9) (j := 25) (C := RX9) (T := TX9) (N := 28) (host := "NarrowRingsModel") rfl rfl (by decide) in_X9 (by decide) rfl dX10_passes_70 (?_ : SdS X 73 [(0, 20), (1, 0)] [100] _)
        refine su_aload_n hC 20 dX10_passes_73 rfl (by decide) (by decide) (?_ : SdS X 74 [(0, 20), (1, 0)] [20, 100] _)
        refine su_getR hC (ci := 10) (j := 34) (C := RX10) (T := TX10) (N := 45) rfl rfl (by decide) in_X10 wl_5_198 rfl dX10_passes_74 (?_ : SdS X 77 [(0, 20), (1, 0)] [100, 100] _)
        refine su_iload_n hC dX10_passes_77 rfl (by decide) (?_ : SdS X 78 [(0, 20), (1, 0)] [0, 100, 100] _)
        refine su_iaload hC dX10_passes_78 (?_ : SdS X 79 [(0, 20), (1, 0)] [0, 100] _)
        refine su_iaload hC dX10_passes_79 (?_ : SdS X 80 [(0, 20), (1, 0)] [0] _)
        refine su_aload_n hC 20 dX10_passes_80 rfl (by decide) (by decide) (?_ : SdS X 81 [(0, 20), (1, 0)] [20, 0] _)
        refine su_getR hC (ci := 10) (j := 32) (C := RX10) (T := TX10) (N := 45) rfl rfl (by decide) in_X10 wl_5_196 rfl dX10_passes_81 (?_ : SdS X 84 [(0, 20), (1, 0)] [100, 0] _)
        refine su_sipush hC dX10_passes_84 (by decide) (?_ : SdS X 87 [(0, 20), (1, 0)] [0, 100, 0] _)
        refine su_iaload hC dX10_passes_87 (?_ : SdS X 88 [(0, 20), (1, 0)] [0, 0] _)
        refine su_icmp_ne (tgt := 103) hC dX10_passes_88 rfl (?_ : SdS X 103 [(0, 20), (1, 0)] [] _) (?_ : SdS X 91 [(0, 20), (1, 0)] [] _)
        · exact SdS.weak (by decide) (S_103 k44 h44)
        · refine su_aload_n hC 20 dX10_passes_91 rfl (by decide) (by decide) (?_ : SdS X 92 [(0, 20), (1, 0)] [20] _)
          refine su_getR hC (ci := 10) (j := 32) (C := RX10) (T := TX10) (N := 45) rfl rfl (by decide) in_X10 wl_5_196 rfl dX10_passes_92 (?_ : SdS X 95 [(0, 20), (1, 0)] [100] _)
          refine su_bipush hC dX10_passes_95 (by decide) (?_ : SdS X 97 [(0, 20), (1, 0)] [0, 100] _)
          refine su_iload_n hC dX10_passes_97 rfl (by decide) (?_ : SdS X 98 [(0, 20), (1, 0)] [0, 0, 100] _)
          refine su_imul hC dX10_passes_98 (?_ : SdS X 99 [(0, 20), (1, 0)] [0, 100] _)
          refine su_iconst hC dX10_passes_99 ⟨by decide, by decide⟩ (?_ : SdS X 100 [(0, 20), (1, 0)] [0, 0, 100] _)
          refine su_iadd hC dX10_passes_100 (?_ : SdS X 101 [(0, 20), (1, 0)] [0, 100] _)
          refine su_iconst hC dX10_passes_101 ⟨by decide, by decide⟩ (?_ : SdS X 102 [(0, 20), (1, 0)] [0, 0, 100] _)
          refine su_iastore hC dX10_passes_102 (?_ : SdS X 103 [(0, 20), (1, 0)] [] _)
          exact SdS.weak (by decide) (S_103 k44 h44)
  have S_23 : SdS X 23 [(0, 20), (1, 0)] [] (L_X10_passes_23 Q) := by
    unfold L_X10_passes_23
    refine SdS.loop (fun k23 h23 => ?_)
    refine su_iload_n hC dX10_passes_23 rfl (by decide) (?_ : SdS X 24 [(0, 20), (1, 0)] [0] _)
    refine su_aload_n hC 20 dX10_passes_24 rfl (by decide) (by decide) (?_ : SdS X 25 [(0, 20), (1, 0)] [20, 0] _)
    refine su_getF hC (ci := 10) (j := 17) (C := RX10) (T := TX10) (N := 45) rfl rfl (by decide) in_X10 wl_5_181 rfl dX10_passes_25 (?_ : SdS X 28 [(0, 20), (1, 0)] [0, 0] _)
    refine su_icmp_ge (tgt := 42) hC dX10_passes_28 rfl (?_ : SdS X 42 [(0, 20), (1, 0)] [] _) (?_ : SdS X 31 [(0, 20), (1, 0)] [] _)
    · refine su_iconst hC dX10_passes_42 ⟨by decide, by decide⟩ (?_ : SdS X 43 [(0, 20), (1, 0)] [0] _)
      refine su_istore_n (Γ' := [(0, 20), (1, 0)]) hC dX10_passes_43 rfl (by rw [e2]; decide) (by decide) (?_ : SdS X 44 [(0, 20), (1, 0)] [] _)
      exact SdS.weak (by decide) (S_44)
    · refine su_aload_n hC 20 dX10_passes_31 rfl (by decide) (by decide) (?_ : SdS X 32 [(0, 20), (1, 0)] [20] _)
      refine su_iload_n hC dX10_passes_32 rfl (by decide) (?_ : SdS X 33 [(0, 20), (1, 0)] [0, 20] _)
      refine su_inv0v (τ := []) (τr := [0]) (ci := 10) (q := (RX10, TX10, 45)) hC WG (M_X10_opens _) rfl rfl rfl rfl  rfl rfl wl_8_51 wl_8_53 wp_120 wl_1_10 wl_8_54 hd_X10_opens (by rw [e3]; decide) (by decide) dX10_passes_33 (?_ : SdS X 36 [(0, 20), (1, 0)] [] _)
      refine su_iinc (Γ' := [(0, 20), (1, 0)]) hC dX10_passes_36 (by decide) (by rw [e2]; decide) (by decide) (?_ : SdS X 39 [(0, 20), (1, 0)] [] _)
      refine su_goto (tgt := 23) hC dX10_passes_39 rfl (?_ : SdS X 23 [(0, 20), (1, 0)] [] _)
      exact SdS.weak (by decide) h23
  have S_2 : SdS X 2 [(0, 20), (1, 0)] [] (L_X10_passes_2 Q) := by
    unfold L_X10_passes_2
    refine SdS.loop (fun k2 h2 => ?_)
    refine su_iload_n hC dX10_passes_2 rfl (by decide) (?_ : SdS X 3 [(0, 20), (1, 0)] [0] _)
    refine su_aload_n hC 20 dX10_passes_3 rfl (by decide) (by decide) (?_ : SdS X 4 [(0, 20), (1, 0)] [20, 0] _)
    refine su_getF hC (ci := 10) (j := 38) (C := RX10) (T := TX10) (N := 45) rfl rfl (by decide) in_X10 wl_5_202 rfl dX10_passes_4 (?_ : SdS X 7 [(0, 20), (1, 0)] [0, 0] _)
    refine su_icmp_ge (tgt := 21) hC dX10_passes_7 rfl (?_ : SdS X 21 [(0, 20), (1, 0)] [] _) (?_ : SdS X 10 [(0, 20), (1, 0)] [] _)
    · refine su_iconst hC dX10_passes_21 ⟨by decide, by decide⟩ (?_ : SdS X 22 [(0, 20), (1, 0)] [0] _)
      refine su_istore_n (Γ' := [(0, 20), (1, 0)]) hC dX10_passes_22 rfl (by rw [e2]; decide) (by decide) (?_ : SdS X 23 [(0, 20), (1, 0)] [] _)
      exact SdS.weak (by decide) (S_23)
    · refine su_aload_n hC 20 dX10_passes_10 rfl (by decide) (by decide) (?_ : SdS X 11 [(0, 20), (1, 0)] [20] _)
      refine su_iload_n hC dX10_passes_11 rfl (by decide) (?_ : SdS X 12 [(0, 20), (1, 0)] [0, 20] _)
      refine su_inv0v (τ := []) (τr := [0]) (ci := 10) (q := (RX10, TX10, 45)) hC WG (M_X10_moves _) rfl rfl rfl rfl  rfl rfl wl_8_31 wl_8_33 wp_115 wl_1_10 wl_8_34 hd_X10_moves (by rw [e3]; decide) (by decide) dX10_passes_12 (?_ : SdS X 15 [(0, 20), (1, 0)] [] _)
      refine su_iinc (Γ' := [(0, 20), (1, 0)]) hC dX10_passes_15 (by decide) (by rw [e2]; decide) (by decide) (?_ : SdS X 18 [(0, 20), (1, 0)] [] _)
      refine su_goto (tgt := 2) hC dX10_passes_18 rfl (?_ : SdS X 2 [(0, 20), (1, 0)] [] _)
      exact SdS.weak (by decide) h2
  refine (?_ : SdS X 0 [(0, 20)] [] (E_X10_passes Q))
  unfold E_X10_passes
  refine su_iconst hC dX10_passes_0 ⟨by decide, by decide⟩ (?_ : SdS X 1 [(0, 20)] [0] _)
  refine su_istore_n (Γ' := [(0, 20), (1, 0)]) hC dX10_passes_1 rfl (by rw [e2]; decide) (by decide) (?_ : SdS X 2 [(0, 20), (1, 0)] [] _)
  exact SdS.weak (by decide) (S_2)
theorem wl_8_27 : Cond.methodLink RX10 501 yX10_passes ∈ WALL := tb8 (List.mem_of_getElem? (i := 27) rfl) rfl
theorem wl_8_29 : Cond.instanceMethod yX10_passes ∈ WALL := tb8 (List.mem_of_getElem? (i := 29) rfl) rfl
theorem wp_114 : Cond.selects RX10 yX10_passes yX10_passes ∈ WALL := tbS (List.mem_of_getElem? (i := 114) rfl)
theorem wl_8_30 : Cond.code yX10_passes cX10_passes 2 none ∈ WALL := tb8 (List.mem_of_getElem? (i := 30) rfl) rfl
theorem hd_X10_pass : yX10_pass.cls ≠ "java/lang/invoke/MethodHandle" ∧ yX10_pass.cls ≠ "java/lang/invoke/VarHandle" ∧ (parseMethodDescriptor yX10_pass.desc).map (fun d => d.parameters.length) = some 1 := by decide +kernel
set_option maxRecDepth 100000 in
set_option maxHeartbeats 4000000 in
theorem M_X10_pass (l : Launch) : MtS l yX10_pass (Cond.code yX10_pass cX10_pass 3 (some .int) :: WALL) { frames := 4, cells := 0, slots := 0, locals := 87 } [20, 0] (some 0) T_X10_pass := by
  refine MtS.mk (B := E_X10_pass) (by decide +kernel) (by decide) (fun _ _ _ hh => hh) ?_
  intro X Q e1 e2 e3 hC hN hT
  subst e1
  have hC : CF X cX10_pass RX10 WALL := hC
  have S_57 : SdS X 57 [(0, 20), (1, 0), (2, 0)] [] (L_X10_pass_57 Q) := by
    unfold L_X10_pass_57
    refine SdS.loop (fun k57 h57 => ?_)
    refine su_iload_n hC dX10_pass_57 rfl (by decide) (?_ : SdS X 58 [(0, 20), (1, 0), (2, 0)] [0] _)
    refine su_iload_n hC dX10_pass_58 rfl (by decide) (?_ : SdS X 59 [(0, 20), (1, 0), (2, 0)] [0, 0] _)
    refine su_icmp_ge (tgt := 72) hC dX10_pass_59 rfl (?_ : SdS X 72 [(0, 20), (1, 0), (2, 0)] [] _) (?_ : SdS X 62 [(0, 20), (1, 0), (2, 0)] [] _)
    · refine su_aload_n hC 20 dX10_pass_72 rfl (by decide) (by decide) (?_ : SdS X 73 [(0, 20), (1, 0), (2, 0)] [20] _)
      refine su_aload_n hC 20 dX10_pass_73 rfl (by decide) (by decide) (?_ : SdS X 74 [(0, 20), (1, 0), (2, 0)] [20, 20] _)
      refine su_getR hC (ci := 10) (j := 32) (C := RX10) (T := TX10) (N := 45) rfl rfl (by decide) in_X10 wl_5_196 rfl dX10_pass_74 (?_ : SdS X 77 [(0, 20), (1, 0), (2, 0)] [100, 20] _)
      refine su_sipush hC dX10_pass_77 (by decide) (?_ : SdS X 80 [(0, 20), (1, 0), (2, 0)] [0, 100, 20] _)
      refine su_iaload hC dX10_pass_80 (?_ : SdS X 81 [(0, 20), (1, 0), (2, 0)] [0, 20] _)
      refine su_inv0 (τ := []) (τr := [0]) (ci := 10) (q := (RX10, TX10, 45)) hC WG (M_X10_good _) rfl rfl rfl rfl  rfl rfl wl_7_171 wl_7_173 wp_105 wl_1_10 wl_7_174 hd_X10_good (by rw [e3]; decide) (by decide) dX10_pass_81 (?_ : SdS X 84 [(0, 20), (1, 0), (2, 0)] [0] _)
      exact su_ireturn hC hT dX10_pass_84
    · refine su_aload_n hC 20 dX10_pass_62 rfl (by decide) (by decide) (?_ : SdS X 63 [(0, 20), (1, 0), (2, 0)] [20] _)
      refine su_inv0v (τ := []) (τr := []) (ci := 10) (q := (RX10, TX10, 45)) hC WG (M_X10_passes _) rfl rfl rfl rfl  rfl rfl wl_8_27 wl_8_29 wp_114 wl_1_10 wl_8_30 hd_X10_passes (by rw [e3]; decide) (by decide) dX10_pass_63 (?_ : SdS X 66 [(0, 20), (1, 0), (2, 0)] [] _)
      refine su_iinc (Γ' := [(0, 20), (1, 0), (2, 0)]) hC dX10_pass_66 (by decide) (by rw [e2]; decide) (by decide) (?_ : SdS X 69 [(0, 20), (1, 0), (2, 0)] [] _)
      refine su_goto (tgt := 57) hC dX10_pass_69 rfl (?_ : SdS X 57 [(0, 20), (1, 0), (2, 0)] [] _)
      exact SdS.weak (by decide) h57
  refine (?_ : SdS X 0 [(0, 20), (1, 0)] [] (E_X10_pass Q))
  unfold E_X10_pass
  refine su_aload_n hC 20 dX10_pass_0 rfl (by decide) (by decide) (?_ : SdS X 1 [(0, 20), (1, 0)] [20] _)
  refine su_iconst hC dX10_pass_1 ⟨by decide, by decide⟩ (?_ : SdS X 2 [(0, 20), (1, 0)] [0, 20] _)
  refine su_putF hC (ci := 10) (j := 0) (C := RX10) (T := TX10) (N := 45) tyX10 tyX10_ok nmX10 rfl rfl (by decide) in_X10 rfl rfl wl_5_164 rfl dX10_pass_2 (?_ : SdS X 5 [(0, 20), (1, 0)] [] _)
  refine su_aload_n hC 20 dX10_pass_5 rfl (by decide) (by decide) (?_ : SdS X 6 [(0, 20), (1, 0)] [20] _)
  refine su_getR hC (ci := 10) (j := 3) (C := RX10) (T := TX10) (N := 45) rfl rfl (by decide) in_X10 wl_5_167 rfl dX10_pass_6 (?_ : SdS X 9 [(0, 20), (1, 0)] [19] _)
  refine su_ifnonnull (tgt := 18) hC (by decide) dX10_pass_9 rfl (?_ : SdS X 18 [(0, 20), (1, 0)] [] _) (?_ : SdS X 12 [(0, 20), (1, 0)] [] _)
  · refine su_iload_n hC dX10_pass_18 rfl (by decide) (?_ : SdS X 19 [(0, 20), (1, 0)] [0] _)
    refine su_iconst hC dX10_pass_19 ⟨by decide, by decide⟩ (?_ : SdS X 20 [(0, 20), (1, 0)] [0, 0] _)
    refine su_bipush hC dX10_pass_20 (by decide) (?_ : SdS X 22 [(0, 20), (1, 0)] [0, 0, 0] _)
    refine su_invs (τ := []) (τs := [0, 0, 0]) hC false "" WG (M_X10_in _) rfl rfl rfl rfl wl_6_238 wl_6_239 wl_1_10 wl_7_0 hd_X10_in (by rw [e3]; decide) (by decide) dX10_pass_22 (?_ : SdS X 25 [(0, 20), (1, 0)] [0] _)
    refine su_if_ne (tgt := 34) hC dX10_pass_25 rfl (?_ : SdS X 34 [(0, 20), (1, 0)] [] _) (?_ : SdS X 28 [(0, 20), (1, 0)] [] _)
    · refine su_aload_n hC 20 dX10_pass_34 rfl (by decide) (by decide) (?_ : SdS X 35 [(0, 20), (1, 0)] [20] _)
      refine su_getR hC (ci := 10) (j := 32) (C := RX10) (T := TX10) (N := 45) rfl rfl (by decide) in_X10 wl_5_196 rfl dX10_pass_35 (?_ : SdS X 38 [(0, 20), (1, 0)] [100] _)
      refine su_sipush hC dX10_pass_38 (by decide) (?_ : SdS X 41 [(0, 20), (1, 0)] [0, 100] _)
      refine su_iaload hC dX10_pass_41 (?_ : SdS X 42 [(0, 20), (1, 0)] [0] _)
      refine su_iload_n hC dX10_pass_42 rfl (by decide) (?_ : SdS X 43 [(0, 20), (1, 0)] [0, 0] _)
      refine su_iadd hC dX10_pass_43 (?_ : SdS X 44 [(0, 20), (1, 0)] [0] _)
      refine su_bipush hC dX10_pass_44 (by decide) (?_ : SdS X 46 [(0, 20), (1, 0)] [0, 0] _)
      refine su_icmp_le (tgt := 55) hC dX10_pass_46 rfl (?_ : SdS X 55 [(0, 20), (1, 0)] [] _) (?_ : SdS X 49 [(0, 20), (1, 0)] [] _)
      · refine su_iconst hC dX10_pass_55 ⟨by decide, by decide⟩ (?_ : SdS X 56 [(0, 20), (1, 0)] [0] _)
        refine su_istore_n (Γ' := [(0, 20), (1, 0), (2, 0)]) hC dX10_pass_56 rfl (by rw [e2]; decide) (by decide) (?_ : SdS X 57 [(0, 20), (1, 0), (2, 0)] [] _)
        exact SdS.weak (by decide) (S_57)
      · refine su_aload_n hC 20 dX10_pass_49 rfl (by decide) (by decide) (?_ : SdS X 50 [(0, 20), (1, 0)] [20] _)
        refine su_iconst hC dX10_pass_50 ⟨by decide, by decide⟩ (?_ : SdS X 51 [(0, 20), (1, 0)] [0, 20] _)
        refine su_inv0 (τ := []) (τr := [0]) (ci := 10) (q := (RX10, TX10, 45)) hC WG (M_X10_refused _) rfl rfl rfl rfl  rfl rfl wl_6_72 wl_6_74 wp_63 wl_1_10 wl_6_75 hd_X10_refused (by rw [e3]; decide) (by decide) dX10_pass_51 (?_ : SdS X 54 [(0, 20), (1, 0)] [0] _)
        exact su_ireturn hC hT dX10_pass_54
    · refine su_aload_n hC 20 dX10_pass_28 rfl (by decide) (by decide) (?_ : SdS X 29 [(0, 20), (1, 0)] [20] _)
      refine su_iconst hC dX10_pass_29 ⟨by decide, by decide⟩ (?_ : SdS X 30 [(0, 20), (1, 0)] [0, 20] _)
      refine su_inv0 (τ := []) (τr := [0]) (ci := 10) (q := (RX10, TX10, 45)) hC WG (M_X10_refused _) rfl rfl rfl rfl  rfl rfl wl_6_72 wl_6_74 wp_63 wl_1_10 wl_6_75 hd_X10_refused (by rw [e3]; decide) (by decide) dX10_pass_30 (?_ : SdS X 33 [(0, 20), (1, 0)] [0] _)
      exact su_ireturn hC hT dX10_pass_33
  · refine su_aload_n hC 20 dX10_pass_12 rfl (by decide) (by decide) (?_ : SdS X 13 [(0, 20), (1, 0)] [20] _)
    refine su_iconst hC dX10_pass_13 ⟨by decide, by decide⟩ (?_ : SdS X 14 [(0, 20), (1, 0)] [0, 20] _)
    refine su_inv0 (τ := []) (τr := [0]) (ci := 10) (q := (RX10, TX10, 45)) hC WG (M_X10_refused _) rfl rfl rfl rfl  rfl rfl wl_6_72 wl_6_74 wp_63 wl_1_10 wl_6_75 hd_X10_refused (by rw [e3]; decide) (by decide) dX10_pass_14 (?_ : SdS X 17 [(0, 20), (1, 0)] [0] _)
    exact su_ireturn hC hT dX10_pass_17
theorem hd_X10_pay : yX10_pay.cls ≠ "java/lang/invoke/MethodHandle" ∧ yX10_pay.cls ≠ "java/lang/invoke/VarHandle" ∧ (parseMethodDescriptor yX10_pay.desc).map (fun d => d.parameters.length) = some 5 := by decide +kernel
set_option maxRecDepth 100000 in
set_option maxHeartbeats 4000000 in
theorem M_X10_pay (l : Launch) : MtS l yX10_pay (Cond.code yX10_pay cX10_pay 6 (some .int) :: WALL) { frames := 6, cells := 0, slots := 0, locals := 151 } [20, 0, 0, 0, 0, 0] (some 0) T_X10_pay := by
  refine MtS.mk (B := E_X10_pay) (by decide +kernel) (by decide) (fun _ _ _ hh => hh) ?_
  intro X Q e1 e2 e3 hC hN hT
  subst e1
  have hC : CF X cX10_pay RX10 WALL := hC
  have S_49 : SdS X 49 [(0, 20), (1, 0), (2, 0), (3, 0), (4, 0), (5, 0)] [0, 20] (B_X10_pay_49 Q) := by
    unfold B_X10_pay_49
    refine su_inv0 (τ := []) (τr := [0]) (ci := 10) (q := (RX10, TX10, 45)) hC WG (M_X10_good _) rfl rfl rfl rfl  rfl rfl wl_7_171 wl_7_173 wp_105 wl_1_10 wl_7_174 hd_X10_good (by rw [e3]; decide) (by decide) dX10_pay_49 (?_ : SdS X 52 [(0, 20), (1, 0), (2, 0), (3, 0), (4, 0), (5, 0)] [0] _)
    exact su_ireturn hC hT dX10_pay_52
  refine (?_ : SdS X 0 [(0, 20), (1, 0), (2, 0), (3, 0), (4, 0), (5, 0)] [] (E_X10_pay Q))
  unfold E_X10_pay
  refine su_aload_n hC 20 dX10_pay_0 rfl (by decide) (by decide) (?_ : SdS X 1 [(0, 20), (1, 0), (2, 0), (3, 0), (4, 0), (5, 0)] [20] _)
  refine su_iconst hC dX10_pay_1 ⟨by decide, by decide⟩ (?_ : SdS X 2 [(0, 20), (1, 0), (2, 0), (3, 0), (4, 0), (5, 0)] [0, 20] _)
  refine su_putF hC (ci := 10) (j := 0) (C := RX10) (T := TX10) (N := 45) tyX10 tyX10_ok nmX10 rfl rfl (by decide) in_X10 rfl rfl wl_5_164 rfl dX10_pay_2 (?_ : SdS X 5 [(0, 20), (1, 0), (2, 0), (3, 0), (4, 0), (5, 0)] [] _)
  refine su_aload_n hC 20 dX10_pay_5 rfl (by decide) (by decide) (?_ : SdS X 6 [(0, 20), (1, 0), (2, 0), (3, 0), (4, 0), (5, 0)] [20] _)
  refine su_iload_n hC dX10_pay_6 rfl (by decide) (?_ : SdS X 7 [(0, 20), (1, 0), (2, 0), (3, 0), (4, 0), (5, 0)] [0, 20] _)
  refine su_iload_n hC dX10_pay_7 rfl (by decide) (?_ : SdS X 8 [(0, 20), (1, 0), (2, 0), (3, 0), (4, 0), (5, 0)] [0, 0, 20] _)
  refine su_iload_n hC dX10_pay_8 rfl (by decide) (?_ : SdS X 9 [(0, 20), (1, 0), (2, 0), (3, 0), (4, 0), (5, 0)] [0, 0, 0, 20] _)
  refine su_iload hC dX10_pay_9 (by decide) (?_ : SdS X 11 [(0, 20), (1, 0), (2, 0), (3, 0), (4, 0), (5, 0)] [0, 0, 0, 0, 20] _)
  refine su_iload hC dX10_pay_11 (by decide) (?_ : SdS X 13 [(0, 20), (1, 0), (2, 0), (3, 0), (4, 0), (5, 0)] [0, 0, 0, 0, 0, 20] _)
  refine su_inv0 (τ := []) (τr := [0, 0, 0, 0, 0]) (ci := 10) (q := (RX10, TX10, 45)) hC WG (M_X10_areTold _) rfl rfl rfl rfl  rfl rfl wl_7_223 wl_7_225 wp_110 wl_1_10 wl_7_226 hd_X10_areTold (by rw [e3]; decide) (by decide) dX10_pay_13 (?_ : SdS X 16 [(0, 20), (1, 0), (2, 0), (3, 0), (4, 0), (5, 0)] [0] _)
  refine su_if_ne (tgt := 25) hC dX10_pay_16 rfl (?_ : SdS X 25 [(0, 20), (1, 0), (2, 0), (3, 0), (4, 0), (5, 0)] [] _) (?_ : SdS X 19 [(0, 20), (1, 0), (2, 0), (3, 0), (4, 0), (5, 0)] [] _)
  · refine su_aload_n hC 20 dX10_pay_25 rfl (by decide) (by decide) (?_ : SdS X 26 [(0, 20), (1, 0), (2, 0), (3, 0), (4, 0), (5, 0)] [20] _)
    refine su_aload_n hC 20 dX10_pay_26 rfl (by decide) (by decide) (?_ : SdS X 27 [(0, 20), (1, 0), (2, 0), (3, 0), (4, 0), (5, 0)] [20, 20] _)
    refine su_iload_n hC dX10_pay_27 rfl (by decide) (?_ : SdS X 28 [(0, 20), (1, 0), (2, 0), (3, 0), (4, 0), (5, 0)] [0, 20, 20] _)
    refine su_iload_n hC dX10_pay_28 rfl (by decide) (?_ : SdS X 29 [(0, 20), (1, 0), (2, 0), (3, 0), (4, 0), (5, 0)] [0, 0, 20, 20] _)
    refine su_iload_n hC dX10_pay_29 rfl (by decide) (?_ : SdS X 30 [(0, 20), (1, 0), (2, 0), (3, 0), (4, 0), (5, 0)] [0, 0, 0, 20, 20] _)
    refine su_iload hC dX10_pay_30 (by decide) (?_ : SdS X 32 [(0, 20), (1, 0), (2, 0), (3, 0), (4, 0), (5, 0)] [0, 0, 0, 0, 20, 20] _)
    refine su_iload hC dX10_pay_32 (by decide) (?_ : SdS X 34 [(0, 20), (1, 0), (2, 0), (3, 0), (4, 0), (5, 0)] [0, 0, 0, 0, 0, 20, 20] _)
    refine su_inv0 (τ := [20]) (τr := [0, 0, 0, 0, 0]) (ci := 10) (q := (RX10, TX10, 45)) hC WG (M_X10_finds _) rfl rfl rfl rfl  rfl rfl wl_7_95 wl_7_97 wp_88 wl_1_10 wl_7_98 hd_X10_finds (by rw [e3]; decide) (by decide) dX10_pay_34 (?_ : SdS X 37 [(0, 20), (1, 0), (2, 0), (3, 0), (4, 0), (5, 0)] [0, 20] _)
    refine su_if_eq (tgt := 47) hC dX10_pay_37 rfl (?_ : SdS X 47 [(0, 20), (1, 0), (2, 0), (3, 0), (4, 0), (5, 0)] [20] _) (?_ : SdS X 40 [(0, 20), (1, 0), (2, 0), (3, 0), (4, 0), (5, 0)] [20] _)
    · refine su_bipush hC dX10_pay_47 (by decide) (?_ : SdS X 49 [(0, 20), (1, 0), (2, 0), (3, 0), (4, 0), (5, 0)] [0, 20] _)
      exact SdS.weak (by decide) (S_49)
    · refine su_aload_n hC 20 dX10_pay_40 rfl (by decide) (by decide) (?_ : SdS X 41 [(0, 20), (1, 0), (2, 0), (3, 0), (4, 0), (5, 0)] [20, 20] _)
      refine su_getF hC (ci := 10) (j := 28) (C := RX10) (T := TX10) (N := 45) rfl rfl (by decide) in_X10 wl_5_192 rfl dX10_pay_41 (?_ : SdS X 44 [(0, 20), (1, 0), (2, 0), (3, 0), (4, 0), (5, 0)] [0, 20] _)
      refine su_goto (tgt := 49) hC dX10_pay_44 rfl (?_ : SdS X 49 [(0, 20), (1, 0), (2, 0), (3, 0), (4, 0), (5, 0)] [0, 20] _)
      exact SdS.weak (by decide) (S_49)
  · refine su_aload_n hC 20 dX10_pay_19 rfl (by decide) (by decide) (?_ : SdS X 20 [(0, 20), (1, 0), (2, 0), (3, 0), (4, 0), (5, 0)] [20] _)
    refine su_iconst hC dX10_pay_20 ⟨by decide, by decide⟩ (?_ : SdS X 21 [(0, 20), (1, 0), (2, 0), (3, 0), (4, 0), (5, 0)] [0, 20] _)
    refine su_inv0 (τ := []) (τr := [0]) (ci := 10) (q := (RX10, TX10, 45)) hC WG (M_X10_refused _) rfl rfl rfl rfl  rfl rfl wl_6_72 wl_6_74 wp_63 wl_1_10 wl_6_75 hd_X10_refused (by rw [e3]; decide) (by decide) dX10_pay_21 (?_ : SdS X 24 [(0, 20), (1, 0), (2, 0), (3, 0), (4, 0), (5, 0)] [0] _)
    exact su_ireturn hC hT dX10_pay_24
theorem hd_X10_payOf : yX10_payOf.cls ≠ "java/lang/invoke/MethodHandle" ∧ yX10_payOf.cls ≠ "java/lang/invoke/VarHandle" ∧ (parseMethodDescriptor yX10_payOf.desc).map (fun d => d.parameters.length) = some 1 := by decide +kernel
set_option maxRecDepth 100000 in
set_option maxHeartbeats 4000000 in
theorem M_X10_payOf (l : Launch) : MtS l yX10_payOf (Cond.code yX10_payOf cX10_payOf 2 (some .int) :: WALL) { frames := 7, cells := 0, slots := 0, locals := 172 } [20, 0] (some 0) T_X10_payOf := by
  refine MtS.mk (B := E_X10_payOf) (by decide +kernel) (by decide) (fun _ _ _ hh => hh) ?_
  intro X Q e1 e2 e3 hC hN hT
  subst e1
  have hC : CF X cX10_payOf RX10 WALL := hC
  have S_37 : SdS X 37 [(0, 20), (1, 0)] [0, 20] (B_X10_payOf_37 Q) := by
    unfold B_X10_payOf_37
    refine su_inv0 (τ := []) (τr := [0]) (ci := 10) (q := (RX10, TX10, 45)) hC WG (M_X10_good _) rfl rfl rfl rfl  rfl rfl wl_7_171 wl_7_173 wp_105 wl_1_10 wl_7_174 hd_X10_good (by rw [e3]; decide) (by decide) dX10_payOf_37 (?_ : SdS X 40 [(0, 20), (1, 0)] [0] _)
    exact su_ireturn hC hT dX10_payOf_40
  refine (?_ : SdS X 0 [(0, 20), (1, 0)] [] (E_X10_payOf Q))
  unfold E_X10_payOf
  refine su_aload_n hC 20 dX10_payOf_0 rfl (by decide) (by decide) (?_ : SdS X 1 [(0, 20), (1, 0)] [20] _)
  refine su_iconst hC dX10_payOf_1 ⟨by decide, by decide⟩ (?_ : SdS X 2 [(0, 20), (1, 0)] [0, 20] _)
  refine su_putF hC (ci := 10) (j := 0) (C := RX10) (T := TX10) (N := 45) tyX10 tyX10_ok nmX10 rfl rfl (by decide) in_X10 rfl rfl wl_5_164 rfl dX10_payOf_2 (?_ : SdS X 5 [(0, 20), (1, 0)] [] _)
  refine su_aload_n hC 20 dX10_payOf_5 rfl (by decide) (by decide) (?_ : SdS X 6 [(0, 20), (1, 0)] [20] _)
  refine su_iload_n hC dX10_payOf_6 rfl (by decide) (?_ : SdS X 7 [(0, 20), (1, 0)] [0, 20] _)
  refine su_inv0 (τ := []) (τr := [0]) (ci := 10) (q := (RX10, TX10, 45)) hC WG (M_X10_isOrder _) rfl rfl rfl rfl  rfl rfl wl_7_235 wl_7_237 wp_111 wl_1_10 wl_7_238 hd_X10_isOrder (by rw [e3]; decide) (by decide) dX10_payOf_7 (?_ : SdS X 10 [(0, 20), (1, 0)] [0] _)
  refine su_if_ne (tgt := 19) hC dX10_payOf_10 rfl (?_ : SdS X 19 [(0, 20), (1, 0)] [] _) (?_ : SdS X 13 [(0, 20), (1, 0)] [] _)
  · refine su_aload_n hC 20 dX10_payOf_19 rfl (by decide) (by decide) (?_ : SdS X 20 [(0, 20), (1, 0)] [20] _)
    refine su_aload_n hC 20 dX10_payOf_20 rfl (by decide) (by decide) (?_ : SdS X 21 [(0, 20), (1, 0)] [20, 20] _)
    refine su_iload_n hC dX10_payOf_21 rfl (by decide) (?_ : SdS X 22 [(0, 20), (1, 0)] [0, 20, 20] _)
    refine su_inv0 (τ := [20]) (τr := [0]) (ci := 10) (q := (RX10, TX10, 45)) hC WG (M_X10_findsOrder _) rfl rfl rfl rfl  rfl rfl wl_7_91 wl_7_93 wp_87 wl_1_10 wl_7_94 hd_X10_findsOrder (by rw [e3]; decide) (by decide) dX10_payOf_22 (?_ : SdS X 25 [(0, 20), (1, 0)] [0, 20] _)
    refine su_if_eq (tgt := 35) hC dX10_payOf_25 rfl (?_ : SdS X 35 [(0, 20), (1, 0)] [20] _) (?_ : SdS X 28 [(0, 20), (1, 0)] [20] _)
    · refine su_bipush hC dX10_payOf_35 (by decide) (?_ : SdS X 37 [(0, 20), (1, 0)] [0, 20] _)
      exact SdS.weak (by decide) (S_37)
    · refine su_aload_n hC 20 dX10_payOf_28 rfl (by decide) (by decide) (?_ : SdS X 29 [(0, 20), (1, 0)] [20, 20] _)
      refine su_getF hC (ci := 10) (j := 28) (C := RX10) (T := TX10) (N := 45) rfl rfl (by decide) in_X10 wl_5_192 rfl dX10_payOf_29 (?_ : SdS X 32 [(0, 20), (1, 0)] [0, 20] _)
      refine su_goto (tgt := 37) hC dX10_payOf_32 rfl (?_ : SdS X 37 [(0, 20), (1, 0)] [0, 20] _)
      exact SdS.weak (by decide) (S_37)
  · refine su_aload_n hC 20 dX10_payOf_13 rfl (by decide) (by decide) (?_ : SdS X 14 [(0, 20), (1, 0)] [20] _)
    refine su_iconst hC dX10_payOf_14 ⟨by decide, by decide⟩ (?_ : SdS X 15 [(0, 20), (1, 0)] [0, 20] _)
    refine su_inv0 (τ := []) (τr := [0]) (ci := 10) (q := (RX10, TX10, 45)) hC WG (M_X10_refused _) rfl rfl rfl rfl  rfl rfl wl_6_72 wl_6_74 wp_63 wl_1_10 wl_6_75 hd_X10_refused (by rw [e3]; decide) (by decide) dX10_payOf_15 (?_ : SdS X 18 [(0, 20), (1, 0)] [0] _)
    exact su_ireturn hC hT dX10_payOf_18
theorem hd_X10_ramNow : yX10_ramNow.cls ≠ "java/lang/invoke/MethodHandle" ∧ yX10_ramNow.cls ≠ "java/lang/invoke/VarHandle" ∧ (parseMethodDescriptor yX10_ramNow.desc).map (fun d => d.parameters.length) = some 3 := by decide +kernel
set_option maxRecDepth 100000 in
set_option maxHeartbeats 4000000 in
theorem M_X10_ramNow (l : Launch) : MtS l yX10_ramNow (Cond.code yX10_ramNow cX10_ramNow 7 (some .int) :: WALL) { frames := 4, cells := 0, slots := 0, locals := 90 } [20, 0, 0, 0] (some 0) T_X10_ramNow := by
  refine MtS.mk (B := E_X10_ramNow) (by decide +kernel) (by decide) (fun _ _ _ hh => hh) ?_
  intro X Q e1 e2 e3 hC hN hT
  subst e1
  have hC : CF X cX10_ramNow RX10 WALL := hC
  have S_108 : ∀ (k37 : xK), SdS X 37 [(0, 20), (1, 0), (2, 0), (3, 0), (4, 0), (5, 0)] [] k37 → SdS X 108 [(0, 20), (1, 0), (2, 0), (3, 0), (4, 0), (5, 0), (6, 0)] [0, 0] (B_X10_ramNow_108 Q k37) := by
    intro k37 h37
    unfold B_X10_ramNow_108
    refine su_iadd hC dX10_ramNow_108 (?_ : SdS X 109 [(0, 20), (1, 0), (2, 0), (3, 0), (4, 0), (5, 0), (6, 0)] [0] _)
    refine su_istore (Γ' := [(0, 20), (1, 0), (2, 0), (3, 0), (4, 0), (5, 0), (6, 0)]) hC dX10_ramNow_109 (by rw [e2]; decide) (by decide) (?_ : SdS X 111 [(0, 20), (1, 0), (2, 0), (3, 0), (4, 0), (5, 0), (6, 0)] [] _)
    refine su_goto (tgt := 37) hC dX10_ramNow_111 rfl (?_ : SdS X 37 [(0, 20), (1, 0), (2, 0), (3, 0), (4, 0), (5, 0), (6, 0)] [] _)
    exact SdS.weak (by decide) h37
  have S_88 : ∀ (k37 : xK), SdS X 37 [(0, 20), (1, 0), (2, 0), (3, 0), (4, 0), (5, 0)] [] k37 → ∀ (k48 : xK), SdS X 48 [(0, 20), (1, 0), (2, 0), (3, 0), (4, 0), (5, 0), (6, 0)] [] k48 → SdS X 88 [(0, 20), (1, 0), (2, 0), (3, 0), (4, 0), (5, 0), (6, 0)] [0] (B_X10_ramNow_88 Q k37 k48) := by
    intro k37 h37 k48 h48
    unfold B_X10_ramNow_88
    refine su_istore (Γ' := [(0, 20), (1, 0), (2, 0), (3, 0), (4, 0), (5, 0), (6, 0)]) hC dX10_ramNow_88 (by rw [e2]; decide) (by decide) (?_ : SdS X 90 [(0, 20), (1, 0), (2, 0), (3, 0), (4, 0), (5, 0), (6, 0)] [] _)
    refine su_iinc (Γ' := [(0, 20), (1, 0), (2, 0), (3, 0), (4, 0), (5, 0), (6, 0)]) hC dX10_ramNow_90 (by decide) (by rw [e2]; decide) (by decide) (?_ : SdS X 93 [(0, 20), (1, 0), (2, 0), (3, 0), (4, 0), (5, 0), (6, 0)] [] _)
    refine su_goto (tgt := 48) hC dX10_ramNow_93 rfl (?_ : SdS X 48 [(0, 20), (1, 0), (2, 0), (3, 0), (4, 0), (5, 0), (6, 0)] [] _)
    exact SdS.weak (by decide) h48
  have S_83 : ∀ (k37 : xK), SdS X 37 [(0, 20), (1, 0), (2, 0), (3, 0), (4, 0), (5, 0)] [] k37 → ∀ (k48 : xK), SdS X 48 [(0, 20), (1, 0), (2, 0), (3, 0), (4, 0), (5, 0), (6, 0)] [] k48 → SdS X 83 [(0, 20), (1, 0), (2, 0), (3, 0), (4, 0), (5, 0), (6, 0)] [] (B_X10_ramNow_83 Q k37 k48) := by
    intro k37 h37 k48 h48
    unfold B_X10_ramNow_83
    refine su_iconst hC dX10_ramNow_83 ⟨by decide, by decide⟩ (?_ : SdS X 84 [(0, 20), (1, 0), (2, 0), (3, 0), (4, 0), (5, 0), (6, 0)] [0] _)
    refine su_goto (tgt := 88) hC dX10_ramNow_84 rfl (?_ : SdS X 88 [(0, 20), (1, 0), (2, 0), (3, 0), (4, 0), (5, 0), (6, 0)] [0] _)
    exact SdS.weak (by decide) (S_88 k37 h37 k48 h48)
  have S_87 : ∀ (k37 : xK), SdS X 37 [(0, 20), (1, 0), (2, 0), (3, 0), (4, 0), (5, 0)] [] k37 → ∀ (k48 : xK), SdS X 48 [(0, 20), (1, 0), (2, 0), (3, 0), (4, 0), (5, 0), (6, 0)] [] k48 → SdS X 87 [(0, 20), (1, 0), (2, 0), (3, 0), (4, 0), (5, 0), (6, 0)] [] (B_X10_ramNow_87 Q k37 k48) := by
    intro k37 h37 k48 h48
    unfold B_X10_ramNow_87
    refine su_iconst hC dX10_ramNow_87 ⟨by decide, by decide⟩ (?_ : SdS X 88 [(0, 20), (1, 0), (2, 0), (3, 0), (4, 0), (5, 0), (6, 0)] [0] _)
    exact SdS.weak (by decide) (S_88 k37 h37 k48 h48)
  have S_48 : ∀ (k37 : xK), SdS X 37 [(0, 20), (1, 0), (2, 0), (3, 0), (4, 0), (5, 0)] [] k37 → SdS X 48 [(0, 20), (1, 0), (2, 0), (3, 0), (4, 0), (5, 0), (6, 0)] [] (L_X10_ramNow_48 Q k37) := by
    intro k37 h37
    unfold L_X10_ramNow_48
    refine SdS.loop (fun k48 h48 => ?_)
    refine su_iload hC dX10_ramNow_48 (by decide) (?_ : SdS X 50 [(0, 20), (1, 0), (2, 0), (3, 0), (4, 0), (5, 0), (6, 0)] [0] _)
    refine su_aload_n hC 20 dX10_ramNow_50 rfl (by decide) (by decide) (?_ : SdS X 51 [(0, 20), (1, 0), (2, 0), (3, 0), (4, 0), (5, 0), (6, 0)] [20, 0] _)
    refine su_getF hC (ci := 10) (j := 17) (C := RX10) (T := TX10) (N := 45) rfl rfl (by decide) in_X10 wl_5_181 rfl dX10_ramNow_51 (?_ : SdS X 54 [(0, 20), (1, 0), (2, 0), (3, 0), (4, 0), (5, 0), (6, 0)] [0, 0] _)
    refine su_icmp_ge (tgt := 96) hC dX10_ramNow_54 rfl (?_ : SdS X 96 [(0, 20), (1, 0), (2, 0), (3, 0), (4, 0), (5, 0), (6, 0)] [] _) (?_ : SdS X 57 [(0, 20), (1, 0), (2, 0), (3, 0), (4, 0), (5, 0), (6, 0)] [] _)
    · refine su_iload hC dX10_ramNow_96 (by decide) (?_ : SdS X 98 [(0, 20), (1, 0), (2, 0), (3, 0), (4, 0), (5, 0), (6, 0)] [0] _)
      refine su_iload hC dX10_ramNow_98 (by decide) (?_ : SdS X 100 [(0, 20), (1, 0), (2, 0), (3, 0), (4, 0), (5, 0), (6, 0)] [0, 0] _)
      refine su_if_eq (tgt := 107) hC dX10_ramNow_100 rfl (?_ : SdS X 107 [(0, 20), (1, 0), (2, 0), (3, 0), (4, 0), (5, 0), (6, 0)] [0] _) (?_ : SdS X 103 [(0, 20), (1, 0), (2, 0), (3, 0), (4, 0), (5, 0), (6, 0)] [0] _)
      · refine su_iconst hC dX10_ramNow_107 ⟨by decide, by decide⟩ (?_ : SdS X 108 [(0, 20), (1, 0), (2, 0), (3, 0), (4, 0), (5, 0), (6, 0)] [0, 0] _)
        exact SdS.weak (by decide) (S_108 k37 h37)
      · refine su_iconst hC dX10_ramNow_103 ⟨by decide, by decide⟩ (?_ : SdS X 104 [(0, 20), (1, 0), (2, 0), (3, 0), (4, 0), (5, 0), (6, 0)] [0, 0] _)
        refine su_goto (tgt := 108) hC dX10_ramNow_104 rfl (?_ : SdS X 108 [(0, 20), (1, 0), (2, 0), (3, 0), (4, 0), (5, 0), (6, 0)] [0, 0] _)
        exact SdS.weak (by decide) (S_108 k37 h37)
    · refine su_iload hC dX10_ramNow_57 (by decide) (?_ : SdS X 59 [(0, 20), (1, 0), (2, 0), (3, 0), (4, 0), (5, 0), (6, 0)] [0] _)
      refine su_if_ne (tgt := 83) hC dX10_ramNow_59 rfl (?_ : SdS X 83 [(0, 20), (1, 0), (2, 0), (3, 0), (4, 0), (5, 0), (6, 0)] [] _) (?_ : SdS X 62 [(0, 20), (1, 0), (2, 0), (3, 0), (4, 0), (5, 0), (6, 0)] [] _)
      · exact SdS.weak (by decide) (S_83 k37 h37 k48 h48)
      · refine su_aload_n hC 20 dX10_ramNow_62 rfl (by decide) (by decide) (?_ : SdS X 63 [(0, 20), (1, 0), (2, 0), (3, 0), (4, 0), (5, 0), (6, 0)] [20] _)
        refine su_iload hC dX10_ramNow_63 (by decide) (?_ : SdS X 65 [(0, 20), (1, 0), (2, 0), (3, 0), (4, 0), (5, 0), (6, 0)] [0, 20] _)
        refine su_iconst hC dX10_ramNow_65 ⟨by decide, by decide⟩ (?_ : SdS X 66 [(0, 20), (1, 0), (2, 0), (3, 0), (4, 0), (5, 0), (6, 0)] [0, 0, 20] _)
        refine su_inv0 (τ := []) (τr := [0, 0]) (ci := 10) (q := (RX10, TX10, 45)) hC WG (M_X10_of _) rfl rfl rfl rfl  rfl rfl wl_7_131 wl_7_133 wp_96 wl_1_10 wl_7_134 hd_X10_of (by rw [e3]; decide) (by decide) dX10_ramNow_66 (?_ : SdS X 69 [(0, 20), (1, 0), (2, 0), (3, 0), (4, 0), (5, 0), (6, 0)] [0] _)
        refine su_iload hC dX10_ramNow_69 (by decide) (?_ : SdS X 71 [(0, 20), (1, 0), (2, 0), (3, 0), (4, 0), (5, 0), (6, 0)] [0, 0] _)
        refine su_icmp_ne (tgt := 87) hC dX10_ramNow_71 rfl (?_ : SdS X 87 [(0, 20), (1, 0), (2, 0), (3, 0), (4, 0), (5, 0), (6, 0)] [] _) (?_ : SdS X 74 [(0, 20), (1, 0), (2, 0), (3, 0), (4, 0), (5, 0), (6, 0)] [] _)
        · exact SdS.weak (by decide) (S_87 k37 h37 k48 h48)
        · refine su_aload_n hC 20 dX10_ramNow_74 rfl (by decide) (by decide) (?_ : SdS X 75 [(0, 20), (1, 0), (2, 0), (3, 0), (4, 0), (5, 0), (6, 0)] [20] _)
          refine su_iload hC dX10_ramNow_75 (by decide) (?_ : SdS X 77 [(0, 20), (1, 0), (2, 0), (3, 0), (4, 0), (5, 0), (6, 0)] [0, 20] _)
          refine su_inv0 (τ := []) (τr := [0]) (ci := 10) (q := (RX10, TX10, 45)) hC WG (M_X10_goesThrough _) rfl rfl rfl rfl  rfl rfl wl_7_135 wl_7_137 wp_97 wl_1_10 wl_7_138 hd_X10_goesThrough (by rw [e3]; decide) (by decide) dX10_ramNow_77 (?_ : SdS X 80 [(0, 20), (1, 0), (2, 0), (3, 0), (4, 0), (5, 0), (6, 0)] [0] _)
          refine su_if_eq (tgt := 87) hC dX10_ramNow_80 rfl (?_ : SdS X 87 [(0, 20), (1, 0), (2, 0), (3, 0), (4, 0), (5, 0), (6, 0)] [] _) (?_ : SdS X 83 [(0, 20), (1, 0), (2, 0), (3, 0), (4, 0), (5, 0), (6, 0)] [] _)
          · exact SdS.weak (by decide) (S_87 k37 h37 k48 h48)
          · exact SdS.weak (by decide) (S_83 k37 h37 k48 h48)
  have S_37 : SdS X 37 [(0, 20), (1, 0), (2, 0), (3, 0), (4, 0), (5, 0)] [] (L_X10_ramNow_37 Q) := by
    unfold L_X10_ramNow_37
    refine SdS.loop (fun k37 h37 => ?_)
    refine su_iload hC dX10_ramNow_37 (by decide) (?_ : SdS X 39 [(0, 20), (1, 0), (2, 0), (3, 0), (4, 0), (5, 0)] [0] _)
    refine su_if_eq (tgt := 114) hC dX10_ramNow_39 rfl (?_ : SdS X 114 [(0, 20), (1, 0), (2, 0), (3, 0), (4, 0), (5, 0)] [] _) (?_ : SdS X 42 [(0, 20), (1, 0), (2, 0), (3, 0), (4, 0), (5, 0)] [] _)
    · refine su_iload hC dX10_ramNow_114 (by decide) (?_ : SdS X 116 [(0, 20), (1, 0), (2, 0), (3, 0), (4, 0), (5, 0)] [0] _)
      exact su_ireturn hC hT dX10_ramNow_116
    · refine su_iconst hC dX10_ramNow_42 ⟨by decide, by decide⟩ (?_ : SdS X 43 [(0, 20), (1, 0), (2, 0), (3, 0), (4, 0), (5, 0)] [0] _)
      refine su_istore (Γ' := [(0, 20), (1, 0), (2, 0), (3, 0), (4, 0), (5, 0)]) hC dX10_ramNow_43 (by rw [e2]; decide) (by decide) (?_ : SdS X 45 [(0, 20), (1, 0), (2, 0), (3, 0), (4, 0), (5, 0)] [] _)
      refine su_iconst hC dX10_ramNow_45 ⟨by decide, by decide⟩ (?_ : SdS X 46 [(0, 20), (1, 0), (2, 0), (3, 0), (4, 0), (5, 0)] [0] _)
      refine su_istore (Γ' := [(0, 20), (1, 0), (2, 0), (3, 0), (4, 0), (5, 0), (6, 0)]) hC dX10_ramNow_46 (by rw [e2]; decide) (by decide) (?_ : SdS X 48 [(0, 20), (1, 0), (2, 0), (3, 0), (4, 0), (5, 0), (6, 0)] [] _)
      exact SdS.weak (by decide) (S_48 k37 h37)
  refine (?_ : SdS X 0 [(0, 20), (1, 0), (2, 0), (3, 0)] [] (E_X10_ramNow Q))
  unfold E_X10_ramNow
  refine su_aload_n hC 20 dX10_ramNow_0 rfl (by decide) (by decide) (?_ : SdS X 1 [(0, 20), (1, 0), (2, 0), (3, 0)] [20] _)
  refine su_iload_n hC dX10_ramNow_1 rfl (by decide) (?_ : SdS X 2 [(0, 20), (1, 0), (2, 0), (3, 0)] [0, 20] _)
  refine su_putF hC (ci := 10) (j := 18) (C := RX10) (T := TX10) (N := 45) tyX10 tyX10_ok nmX10 rfl rfl (by decide) in_X10 rfl rfl wl_5_182 rfl dX10_ramNow_2 (?_ : SdS X 5 [(0, 20), (1, 0), (2, 0), (3, 0)] [] _)
  refine su_aload_n hC 20 dX10_ramNow_5 rfl (by decide) (by decide) (?_ : SdS X 6 [(0, 20), (1, 0), (2, 0), (3, 0)] [20] _)
  refine su_iload_n hC dX10_ramNow_6 rfl (by decide) (?_ : SdS X 7 [(0, 20), (1, 0), (2, 0), (3, 0)] [0, 20] _)
  refine su_putF hC (ci := 10) (j := 19) (C := RX10) (T := TX10) (N := 45) tyX10 tyX10_ok nmX10 rfl rfl (by decide) in_X10 rfl rfl wl_5_183 rfl dX10_ramNow_7 (?_ : SdS X 10 [(0, 20), (1, 0), (2, 0), (3, 0)] [] _)
  refine su_aload_n hC 20 dX10_ramNow_10 rfl (by decide) (by decide) (?_ : SdS X 11 [(0, 20), (1, 0), (2, 0), (3, 0)] [20] _)
  refine su_iload_n hC dX10_ramNow_11 rfl (by decide) (?_ : SdS X 12 [(0, 20), (1, 0), (2, 0), (3, 0)] [0, 20] _)
  refine su_putF hC (ci := 10) (j := 20) (C := RX10) (T := TX10) (N := 45) tyX10 tyX10_ok nmX10 rfl rfl (by decide) in_X10 rfl rfl wl_5_184 rfl dX10_ramNow_12 (?_ : SdS X 15 [(0, 20), (1, 0), (2, 0), (3, 0)] [] _)
  refine su_aload_n hC 20 dX10_ramNow_15 rfl (by decide) (by decide) (?_ : SdS X 16 [(0, 20), (1, 0), (2, 0), (3, 0)] [20] _)
  refine su_iconst hC dX10_ramNow_16 ⟨by decide, by decide⟩ (?_ : SdS X 17 [(0, 20), (1, 0), (2, 0), (3, 0)] [0, 20] _)
  refine su_putF hC (ci := 10) (j := 22) (C := RX10) (T := TX10) (N := 45) tyX10 tyX10_ok nmX10 rfl rfl (by decide) in_X10 rfl rfl wl_5_186 rfl dX10_ramNow_17 (?_ : SdS X 20 [(0, 20), (1, 0), (2, 0), (3, 0)] [] _)
  refine su_aload_n hC 20 dX10_ramNow_20 rfl (by decide) (by decide) (?_ : SdS X 21 [(0, 20), (1, 0), (2, 0), (3, 0)] [20] _)
  refine su_iconst hC dX10_ramNow_21 ⟨by decide, by decide⟩ (?_ : SdS X 22 [(0, 20), (1, 0), (2, 0), (3, 0)] [0, 20] _)
  refine su_inv0 (τ := []) (τr := [0]) (ci := 10) (q := (RX10, TX10, 45)) hC WG (M_X10_fitsRing _) rfl rfl rfl rfl  rfl rfl wl_7_118 wl_7_120 wp_93 wl_1_10 wl_7_121 hd_X10_fitsRing (by rw [e3]; decide) (by decide) dX10_ramNow_22 (?_ : SdS X 25 [(0, 20), (1, 0), (2, 0), (3, 0)] [0] _)
  refine su_if_ne (tgt := 31) hC dX10_ramNow_25 rfl (?_ : SdS X 31 [(0, 20), (1, 0), (2, 0), (3, 0)] [] _) (?_ : SdS X 28 [(0, 20), (1, 0), (2, 0), (3, 0)] [] _)
  · refine su_iconst hC dX10_ramNow_31 ⟨by decide, by decide⟩ (?_ : SdS X 32 [(0, 20), (1, 0), (2, 0), (3, 0)] [0] _)
    refine su_istore (Γ' := [(0, 20), (1, 0), (2, 0), (3, 0), (4, 0)]) hC dX10_ramNow_32 (by rw [e2]; decide) (by decide) (?_ : SdS X 34 [(0, 20), (1, 0), (2, 0), (3, 0), (4, 0)] [] _)
    refine su_iconst hC dX10_ramNow_34 ⟨by decide, by decide⟩ (?_ : SdS X 35 [(0, 20), (1, 0), (2, 0), (3, 0), (4, 0)] [0] _)
    refine su_istore (Γ' := [(0, 20), (1, 0), (2, 0), (3, 0), (4, 0), (5, 0)]) hC dX10_ramNow_35 (by rw [e2]; decide) (by decide) (?_ : SdS X 37 [(0, 20), (1, 0), (2, 0), (3, 0), (4, 0), (5, 0)] [] _)
    exact SdS.weak (by decide) (S_37)
  · refine su_bipush hC dX10_ramNow_28 (by decide) (?_ : SdS X 30 [(0, 20), (1, 0), (2, 0), (3, 0)] [0] _)
    exact su_ireturn hC hT dX10_ramNow_30
theorem wl_8_134 : Cond.methodLink RX10 517 yX10_ramNow ∈ WALL := tb8 (List.mem_of_getElem? (i := 134) rfl) rfl
theorem wl_8_136 : Cond.instanceMethod yX10_ramNow ∈ WALL := tb8 (List.mem_of_getElem? (i := 136) rfl) rfl
theorem wp_127 : Cond.selects RX10 yX10_ramNow yX10_ramNow ∈ WALL := tbS (List.mem_of_getElem? (i := 127) rfl)
theorem wl_8_137 : Cond.code yX10_ramNow cX10_ramNow 7 (some .int) ∈ WALL := tb8 (List.mem_of_getElem? (i := 137) rfl) rfl
theorem hd_X10_ram : yX10_ram.cls ≠ "java/lang/invoke/MethodHandle" ∧ yX10_ram.cls ≠ "java/lang/invoke/VarHandle" ∧ (parseMethodDescriptor yX10_ram.desc).map (fun d => d.parameters.length) = some 3 := by decide +kernel
set_option maxRecDepth 100000 in
set_option maxHeartbeats 4000000 in
theorem M_X10_ram (l : Launch) : MtS l yX10_ram (Cond.code yX10_ram cX10_ram 4 (some .int) :: WALL) { frames := 5, cells := 0, slots := 0, locals := 116 } [20, 0, 0, 0] (some 0) T_X10_ram := by
  refine MtS.mk (B := E_X10_ram) (by decide +kernel) (by decide) (fun _ _ _ hh => hh) ?_
  intro X Q e1 e2 e3 hC hN hT
  subst e1
  have hC : CF X cX10_ram RX10 WALL := hC
  have S_58 : SdS X 58 [(0, 20), (1, 0), (2, 0), (3, 0)] [0] (B_X10_ram_58 Q) := by
    unfold B_X10_ram_58
    exact su_ireturn hC hT dX10_ram_58
  have S_53 : SdS X 53 [(0, 20), (1, 0), (2, 0), (3, 0)] [] (B_X10_ram_53 Q) := by
    unfold B_X10_ram_53
    refine su_aload_n hC 20 dX10_ram_53 rfl (by decide) (by decide) (?_ : SdS X 54 [(0, 20), (1, 0), (2, 0), (3, 0)] [20] _)
    refine su_iconst hC dX10_ram_54 ⟨by decide, by decide⟩ (?_ : SdS X 55 [(0, 20), (1, 0), (2, 0), (3, 0)] [0, 20] _)
    refine su_inv0 (τ := []) (τr := [0]) (ci := 10) (q := (RX10, TX10, 45)) hC WG (M_X10_refused _) rfl rfl rfl rfl  rfl rfl wl_6_72 wl_6_74 wp_63 wl_1_10 wl_6_75 hd_X10_refused (by rw [e3]; decide) (by decide) dX10_ram_55 (?_ : SdS X 58 [(0, 20), (1, 0), (2, 0), (3, 0)] [0] _)
    exact SdS.weak (by decide) (S_58)
  refine (?_ : SdS X 0 [(0, 20), (1, 0), (2, 0), (3, 0)] [] (E_X10_ram Q))
  unfold E_X10_ram
  refine su_aload_n hC 20 dX10_ram_0 rfl (by decide) (by decide) (?_ : SdS X 1 [(0, 20), (1, 0), (2, 0), (3, 0)] [20] _)
  refine su_iconst hC dX10_ram_1 ⟨by decide, by decide⟩ (?_ : SdS X 2 [(0, 20), (1, 0), (2, 0), (3, 0)] [0, 20] _)
  refine su_putF hC (ci := 10) (j := 0) (C := RX10) (T := TX10) (N := 45) tyX10 tyX10_ok nmX10 rfl rfl (by decide) in_X10 rfl rfl wl_5_164 rfl dX10_ram_2 (?_ : SdS X 5 [(0, 20), (1, 0), (2, 0), (3, 0)] [] _)
  refine su_aload_n hC 20 dX10_ram_5 rfl (by decide) (by decide) (?_ : SdS X 6 [(0, 20), (1, 0), (2, 0), (3, 0)] [20] _)
  refine su_getR hC (ci := 10) (j := 3) (C := RX10) (T := TX10) (N := 45) rfl rfl (by decide) in_X10 wl_5_167 rfl dX10_ram_6 (?_ : SdS X 9 [(0, 20), (1, 0), (2, 0), (3, 0)] [19] _)
  refine su_ifnonnull (tgt := 18) hC (by decide) dX10_ram_9 rfl (?_ : SdS X 18 [(0, 20), (1, 0), (2, 0), (3, 0)] [] _) (?_ : SdS X 12 [(0, 20), (1, 0), (2, 0), (3, 0)] [] _)
  · refine su_iload_n hC dX10_ram_18 rfl (by decide) (?_ : SdS X 19 [(0, 20), (1, 0), (2, 0), (3, 0)] [0] _)
    refine su_invs (τ := []) (τs := [0]) hC false "" WG (M_X10_isSize _) rfl rfl rfl rfl wl_8_119 wl_8_120 wl_1_10 wl_8_121 hd_X10_isSize (by rw [e3]; decide) (by decide) dX10_ram_19 (?_ : SdS X 22 [(0, 20), (1, 0), (2, 0), (3, 0)] [0] _)
    refine su_if_eq (tgt := 53) hC dX10_ram_22 rfl (?_ : SdS X 53 [(0, 20), (1, 0), (2, 0), (3, 0)] [] _) (?_ : SdS X 25 [(0, 20), (1, 0), (2, 0), (3, 0)] [] _)
    · exact SdS.weak (by decide) (S_53)
    · refine su_iload_n hC dX10_ram_25 rfl (by decide) (?_ : SdS X 26 [(0, 20), (1, 0), (2, 0), (3, 0)] [0] _)
      refine su_invs (τ := []) (τs := [0]) hC false "" WG (M_X10_isSize _) rfl rfl rfl rfl wl_8_119 wl_8_120 wl_1_10 wl_8_121 hd_X10_isSize (by rw [e3]; decide) (by decide) dX10_ram_26 (?_ : SdS X 29 [(0, 20), (1, 0), (2, 0), (3, 0)] [0] _)
      refine su_if_eq (tgt := 53) hC dX10_ram_29 rfl (?_ : SdS X 53 [(0, 20), (1, 0), (2, 0), (3, 0)] [] _) (?_ : SdS X 32 [(0, 20), (1, 0), (2, 0), (3, 0)] [] _)
      · exact SdS.weak (by decide) (S_53)
      · refine su_iload_n hC dX10_ram_32 rfl (by decide) (?_ : SdS X 33 [(0, 20), (1, 0), (2, 0), (3, 0)] [0] _)
        refine su_invs (τ := []) (τs := [0]) hC false "" WG (M_X10_isSize _) rfl rfl rfl rfl wl_8_119 wl_8_120 wl_1_10 wl_8_121 hd_X10_isSize (by rw [e3]; decide) (by decide) dX10_ram_33 (?_ : SdS X 36 [(0, 20), (1, 0), (2, 0), (3, 0)] [0] _)
        refine su_if_eq (tgt := 53) hC dX10_ram_36 rfl (?_ : SdS X 53 [(0, 20), (1, 0), (2, 0), (3, 0)] [] _) (?_ : SdS X 39 [(0, 20), (1, 0), (2, 0), (3, 0)] [] _)
        · exact SdS.weak (by decide) (S_53)
        · refine su_aload_n hC 20 dX10_ram_39 rfl (by decide) (by decide) (?_ : SdS X 40 [(0, 20), (1, 0), (2, 0), (3, 0)] [20] _)
          refine su_aload_n hC 20 dX10_ram_40 rfl (by decide) (by decide) (?_ : SdS X 41 [(0, 20), (1, 0), (2, 0), (3, 0)] [20, 20] _)
          refine su_iload_n hC dX10_ram_41 rfl (by decide) (?_ : SdS X 42 [(0, 20), (1, 0), (2, 0), (3, 0)] [0, 20, 20] _)
          refine su_iload_n hC dX10_ram_42 rfl (by decide) (?_ : SdS X 43 [(0, 20), (1, 0), (2, 0), (3, 0)] [0, 0, 20, 20] _)
          refine su_iload_n hC dX10_ram_43 rfl (by decide) (?_ : SdS X 44 [(0, 20), (1, 0), (2, 0), (3, 0)] [0, 0, 0, 20, 20] _)
          refine su_inv0 (τ := [20]) (τr := [0, 0, 0]) (ci := 10) (q := (RX10, TX10, 45)) hC WG (M_X10_ramNow _) rfl rfl rfl rfl  rfl rfl wl_8_134 wl_8_136 wp_127 wl_1_10 wl_8_137 hd_X10_ramNow (by rw [e3]; decide) (by decide) dX10_ram_44 (?_ : SdS X 47 [(0, 20), (1, 0), (2, 0), (3, 0)] [0, 20] _)
          refine su_inv0 (τ := []) (τr := [0]) (ci := 10) (q := (RX10, TX10, 45)) hC WG (M_X10_good _) rfl rfl rfl rfl  rfl rfl wl_7_171 wl_7_173 wp_105 wl_1_10 wl_7_174 hd_X10_good (by rw [e3]; decide) (by decide) dX10_ram_47 (?_ : SdS X 50 [(0, 20), (1, 0), (2, 0), (3, 0)] [0] _)
          refine su_goto (tgt := 58) hC dX10_ram_50 rfl (?_ : SdS X 58 [(0, 20), (1, 0), (2, 0), (3, 0)] [0] _)
          exact SdS.weak (by decide) (S_58)
  · refine su_aload_n hC 20 dX10_ram_12 rfl (by decide) (by decide) (?_ : SdS X 13 [(0, 20), (1, 0), (2, 0), (3, 0)] [20] _)
    refine su_iconst hC dX10_ram_13 ⟨by decide, by decide⟩ (?_ : SdS X 14 [(0, 20), (1, 0), (2, 0), (3, 0)] [0, 20] _)
    refine su_inv0 (τ := []) (τr := [0]) (ci := 10) (q := (RX10, TX10, 45)) hC WG (M_X10_refused _) rfl rfl rfl rfl  rfl rfl wl_6_72 wl_6_74 wp_63 wl_1_10 wl_6_75 hd_X10_refused (by rw [e3]; decide) (by decide) dX10_ram_14 (?_ : SdS X 17 [(0, 20), (1, 0), (2, 0), (3, 0)] [0] _)
    exact su_ireturn hC hT dX10_ram_17
theorem hd_X10_ramBy : yX10_ramBy.cls ≠ "java/lang/invoke/MethodHandle" ∧ yX10_ramBy.cls ≠ "java/lang/invoke/VarHandle" ∧ (parseMethodDescriptor yX10_ramBy.desc).map (fun d => d.parameters.length) = some 5 := by decide +kernel
set_option maxRecDepth 100000 in
set_option maxHeartbeats 4000000 in
theorem M_X10_ramBy (l : Launch) : MtS l yX10_ramBy (Cond.code yX10_ramBy cX10_ramBy 9 (some .int) :: WALL) { frames := 5, cells := 0, slots := 0, locals := 116 } [20, 0, 0, 0, 0, 0] (some 0) T_X10_ramBy := by
  refine MtS.mk (B := E_X10_ramBy) (by decide +kernel) (by decide) (fun _ _ _ hh => hh) ?_
  intro X Q e1 e2 e3 hC hN hT
  subst e1
  have hC : CF X cX10_ramBy RX10 WALL := hC
  have S_49 : SdS X 49 [(0, 20), (1, 0), (2, 0), (3, 0), (4, 0), (5, 0)] [] (B_X10_ramBy_49 Q) := by
    unfold B_X10_ramBy_49
    refine su_aload_n hC 20 dX10_ramBy_49 rfl (by decide) (by decide) (?_ : SdS X 50 [(0, 20), (1, 0), (2, 0), (3, 0), (4, 0), (5, 0)] [20] _)
    refine su_iconst hC dX10_ramBy_50 ⟨by decide, by decide⟩ (?_ : SdS X 51 [(0, 20), (1, 0), (2, 0), (3, 0), (4, 0), (5, 0)] [0, 20] _)
    refine su_inv0 (τ := []) (τr := [0]) (ci := 10) (q := (RX10, TX10, 45)) hC WG (M_X10_refused _) rfl rfl rfl rfl  rfl rfl wl_6_72 wl_6_74 wp_63 wl_1_10 wl_6_75 hd_X10_refused (by rw [e3]; decide) (by decide) dX10_ramBy_51 (?_ : SdS X 54 [(0, 20), (1, 0), (2, 0), (3, 0), (4, 0), (5, 0)] [0] _)
    exact su_ireturn hC hT dX10_ramBy_54
  have S_92 : SdS X 92 [(0, 20), (1, 0), (2, 0), (3, 0), (4, 0), (5, 0), (6, 0), (7, 0)] [0, 0, 100] (B_X10_ramBy_92 Q) := by
    unfold B_X10_ramBy_92
    refine su_iastore hC dX10_ramBy_92 (?_ : SdS X 93 [(0, 20), (1, 0), (2, 0), (3, 0), (4, 0), (5, 0), (6, 0), (7, 0)] [] _)
    refine su_aload_n hC 20 dX10_ramBy_93 rfl (by decide) (by decide) (?_ : SdS X 94 [(0, 20), (1, 0), (2, 0), (3, 0), (4, 0), (5, 0), (6, 0), (7, 0)] [20] _)
    refine su_iload_n hC dX10_ramBy_94 rfl (by decide) (?_ : SdS X 95 [(0, 20), (1, 0), (2, 0), (3, 0), (4, 0), (5, 0), (6, 0), (7, 0)] [0, 20] _)
    refine su_iload_n hC dX10_ramBy_95 rfl (by decide) (?_ : SdS X 96 [(0, 20), (1, 0), (2, 0), (3, 0), (4, 0), (5, 0), (6, 0), (7, 0)] [0, 0, 20] _)
    refine su_iload hC dX10_ramBy_96 (by decide) (?_ : SdS X 98 [(0, 20), (1, 0), (2, 0), (3, 0), (4, 0), (5, 0), (6, 0), (7, 0)] [0, 0, 0, 20] _)
    refine su_inv0 (τ := []) (τr := [0, 0, 0]) (ci := 10) (q := (RX10, TX10, 45)) hC WG (M_X10_ramNow _) rfl rfl rfl rfl  rfl rfl wl_8_134 wl_8_136 wp_127 wl_1_10 wl_8_137 hd_X10_ramNow (by rw [e3]; decide) (by decide) dX10_ramBy_98 (?_ : SdS X 101 [(0, 20), (1, 0), (2, 0), (3, 0), (4, 0), (5, 0), (6, 0), (7, 0)] [0] _)
    refine su_istore (Γ' := [(0, 20), (1, 0), (2, 0), (3, 0), (4, 0), (5, 0), (6, 0), (7, 0), (8, 0)]) hC dX10_ramBy_101 (by rw [e2]; decide) (by decide) (?_ : SdS X 103 [(0, 20), (1, 0), (2, 0), (3, 0), (4, 0), (5, 0), (6, 0), (7, 0), (8, 0)] [] _)
    refine su_aload_n hC 20 dX10_ramBy_103 rfl (by decide) (by decide) (?_ : SdS X 104 [(0, 20), (1, 0), (2, 0), (3, 0), (4, 0), (5, 0), (6, 0), (7, 0), (8, 0)] [20] _)
    refine su_getR hC (ci := 10) (j := 16) (C := RX10) (T := TX10) (N := 45) rfl rfl (by decide) in_X10 wl_5_180 rfl dX10_ramBy_104 (?_ : SdS X 107 [(0, 20), (1, 0), (2, 0), (3, 0), (4, 0), (5, 0), (6, 0), (7, 0), (8, 0)] [100] _)
    refine su_iload hC dX10_ramBy_107 (by decide) (?_ : SdS X 109 [(0, 20), (1, 0), (2, 0), (3, 0), (4, 0), (5, 0), (6, 0), (7, 0), (8, 0)] [0, 100] _)
    refine su_iload hC dX10_ramBy_109 (by decide) (?_ : SdS X 111 [(0, 20), (1, 0), (2, 0), (3, 0), (4, 0), (5, 0), (6, 0), (7, 0), (8, 0)] [0, 0, 100] _)
    refine su_iastore hC dX10_ramBy_111 (?_ : SdS X 112 [(0, 20), (1, 0), (2, 0), (3, 0), (4, 0), (5, 0), (6, 0), (7, 0), (8, 0)] [] _)
    refine su_aload_n hC 20 dX10_ramBy_112 rfl (by decide) (by decide) (?_ : SdS X 113 [(0, 20), (1, 0), (2, 0), (3, 0), (4, 0), (5, 0), (6, 0), (7, 0), (8, 0)] [20] _)
    refine su_iload hC dX10_ramBy_113 (by decide) (?_ : SdS X 115 [(0, 20), (1, 0), (2, 0), (3, 0), (4, 0), (5, 0), (6, 0), (7, 0), (8, 0)] [0, 20] _)
    refine su_inv0 (τ := []) (τr := [0]) (ci := 10) (q := (RX10, TX10, 45)) hC WG (M_X10_good _) rfl rfl rfl rfl  rfl rfl wl_7_171 wl_7_173 wp_105 wl_1_10 wl_7_174 hd_X10_good (by rw [e3]; decide) (by decide) dX10_ramBy_115 (?_ : SdS X 118 [(0, 20), (1, 0), (2, 0), (3, 0), (4, 0), (5, 0), (6, 0), (7, 0), (8, 0)] [0] _)
    exact su_ireturn hC hT dX10_ramBy_118
  refine (?_ : SdS X 0 [(0, 20), (1, 0), (2, 0), (3, 0), (4, 0), (5, 0)] [] (E_X10_ramBy Q))
  unfold E_X10_ramBy
  refine su_aload_n hC 20 dX10_ramBy_0 rfl (by decide) (by decide) (?_ : SdS X 1 [(0, 20), (1, 0), (2, 0), (3, 0), (4, 0), (5, 0)] [20] _)
  refine su_iconst hC dX10_ramBy_1 ⟨by decide, by decide⟩ (?_ : SdS X 2 [(0, 20), (1, 0), (2, 0), (3, 0), (4, 0), (5, 0)] [0, 20] _)
  refine su_putF hC (ci := 10) (j := 0) (C := RX10) (T := TX10) (N := 45) tyX10 tyX10_ok nmX10 rfl rfl (by decide) in_X10 rfl rfl wl_5_164 rfl dX10_ramBy_2 (?_ : SdS X 5 [(0, 20), (1, 0), (2, 0), (3, 0), (4, 0), (5, 0)] [] _)
  refine su_aload_n hC 20 dX10_ramBy_5 rfl (by decide) (by decide) (?_ : SdS X 6 [(0, 20), (1, 0), (2, 0), (3, 0), (4, 0), (5, 0)] [20] _)
  refine su_iload_n hC dX10_ramBy_6 rfl (by decide) (?_ : SdS X 7 [(0, 20), (1, 0), (2, 0), (3, 0), (4, 0), (5, 0)] [0, 20] _)
  refine su_inv0 (τ := []) (τr := [0]) (ci := 10) (q := (RX10, TX10, 45)) hC WG (M_X10_isGate _) rfl rfl rfl rfl  rfl rfl wl_7_187 wl_7_189 wp_106 wl_1_10 wl_7_190 hd_X10_isGate (by rw [e3]; decide) (by decide) dX10_ramBy_7 (?_ : SdS X 10 [(0, 20), (1, 0), (2, 0), (3, 0), (4, 0), (5, 0)] [0] _)
  refine su_if_ne (tgt := 19) hC dX10_ramBy_10 rfl (?_ : SdS X 19 [(0, 20), (1, 0), (2, 0), (3, 0), (4, 0), (5, 0)] [] _) (?_ : SdS X 13 [(0, 20), (1, 0), (2, 0), (3, 0), (4, 0), (5, 0)] [] _)
  · refine su_iload_n hC dX10_ramBy_19 rfl (by decide) (?_ : SdS X 20 [(0, 20), (1, 0), (2, 0), (3, 0), (4, 0), (5, 0)] [0] _)
    refine su_invs (τ := []) (τs := [0]) hC false "" WG (M_X10_isSize _) rfl rfl rfl rfl wl_8_119 wl_8_120 wl_1_10 wl_8_121 hd_X10_isSize (by rw [e3]; decide) (by decide) dX10_ramBy_20 (?_ : SdS X 23 [(0, 20), (1, 0), (2, 0), (3, 0), (4, 0), (5, 0)] [0] _)
    refine su_if_eq (tgt := 49) hC dX10_ramBy_23 rfl (?_ : SdS X 49 [(0, 20), (1, 0), (2, 0), (3, 0), (4, 0), (5, 0)] [] _) (?_ : SdS X 26 [(0, 20), (1, 0), (2, 0), (3, 0), (4, 0), (5, 0)] [] _)
    · exact SdS.weak (by decide) (S_49)
    · refine su_iload_n hC dX10_ramBy_26 rfl (by decide) (?_ : SdS X 27 [(0, 20), (1, 0), (2, 0), (3, 0), (4, 0), (5, 0)] [0] _)
      refine su_invs (τ := []) (τs := [0]) hC false "" WG (M_X10_isSize _) rfl rfl rfl rfl wl_8_119 wl_8_120 wl_1_10 wl_8_121 hd_X10_isSize (by rw [e3]; decide) (by decide) dX10_ramBy_27 (?_ : SdS X 30 [(0, 20), (1, 0), (2, 0), (3, 0), (4, 0), (5, 0)] [0] _)
      refine su_if_eq (tgt := 49) hC dX10_ramBy_30 rfl (?_ : SdS X 49 [(0, 20), (1, 0), (2, 0), (3, 0), (4, 0), (5, 0)] [] _) (?_ : SdS X 33 [(0, 20), (1, 0), (2, 0), (3, 0), (4, 0), (5, 0)] [] _)
      · exact SdS.weak (by decide) (S_49)
      · refine su_iload hC dX10_ramBy_33 (by decide) (?_ : SdS X 35 [(0, 20), (1, 0), (2, 0), (3, 0), (4, 0), (5, 0)] [0] _)
        refine su_invs (τ := []) (τs := [0]) hC false "" WG (M_X10_isSize _) rfl rfl rfl rfl wl_8_119 wl_8_120 wl_1_10 wl_8_121 hd_X10_isSize (by rw [e3]; decide) (by decide) dX10_ramBy_35 (?_ : SdS X 38 [(0, 20), (1, 0), (2, 0), (3, 0), (4, 0), (5, 0)] [0] _)
        refine su_if_eq (tgt := 49) hC dX10_ramBy_38 rfl (?_ : SdS X 49 [(0, 20), (1, 0), (2, 0), (3, 0), (4, 0), (5, 0)] [] _) (?_ : SdS X 41 [(0, 20), (1, 0), (2, 0), (3, 0), (4, 0), (5, 0)] [] _)
        · exact SdS.weak (by decide) (S_49)
        · refine su_iload hC dX10_ramBy_41 (by decide) (?_ : SdS X 43 [(0, 20), (1, 0), (2, 0), (3, 0), (4, 0), (5, 0)] [0] _)
          refine su_invs (τ := []) (τs := [0]) hC false "" WG (M_X10_isSize _) rfl rfl rfl rfl wl_8_119 wl_8_120 wl_1_10 wl_8_121 hd_X10_isSize (by rw [e3]; decide) (by decide) dX10_ramBy_43 (?_ : SdS X 46 [(0, 20), (1, 0), (2, 0), (3, 0), (4, 0), (5, 0)] [0] _)
          refine su_if_ne (tgt := 55) hC dX10_ramBy_46 rfl (?_ : SdS X 55 [(0, 20), (1, 0), (2, 0), (3, 0), (4, 0), (5, 0)] [] _) (?_ : SdS X 49 [(0, 20), (1, 0), (2, 0), (3, 0), (4, 0), (5, 0)] [] _)
          · refine su_bipush hC dX10_ramBy_55 (by decide) (?_ : SdS X 57 [(0, 20), (1, 0), (2, 0), (3, 0), (4, 0), (5, 0)] [0] _)
            refine su_iload_n hC dX10_ramBy_57 rfl (by decide) (?_ : SdS X 58 [(0, 20), (1, 0), (2, 0), (3, 0), (4, 0), (5, 0)] [0, 0] _)
            refine su_imul hC dX10_ramBy_58 (?_ : SdS X 59 [(0, 20), (1, 0), (2, 0), (3, 0), (4, 0), (5, 0)] [0] _)
            refine su_iconst hC dX10_ramBy_59 ⟨by decide, by decide⟩ (?_ : SdS X 60 [(0, 20), (1, 0), (2, 0), (3, 0), (4, 0), (5, 0)] [0, 0] _)
            refine su_iadd hC dX10_ramBy_60 (?_ : SdS X 61 [(0, 20), (1, 0), (2, 0), (3, 0), (4, 0), (5, 0)] [0] _)
            refine su_istore (Γ' := [(0, 20), (1, 0), (2, 0), (3, 0), (4, 0), (5, 0), (6, 0)]) hC dX10_ramBy_61 (by rw [e2]; decide) (by decide) (?_ : SdS X 63 [(0, 20), (1, 0), (2, 0), (3, 0), (4, 0), (5, 0), (6, 0)] [] _)
            refine su_aload_n hC 20 dX10_ramBy_63 rfl (by decide) (by decide) (?_ : SdS X 64 [(0, 20), (1, 0), (2, 0), (3, 0), (4, 0), (5, 0), (6, 0)] [20] _)
            refine su_getR hC (ci := 10) (j := 16) (C := RX10) (T := TX10) (N := 45) rfl rfl (by decide) in_X10 wl_5_180 rfl dX10_ramBy_64 (?_ : SdS X 67 [(0, 20), (1, 0), (2, 0), (3, 0), (4, 0), (5, 0), (6, 0)] [100] _)
            refine su_iload hC dX10_ramBy_67 (by decide) (?_ : SdS X 69 [(0, 20), (1, 0), (2, 0), (3, 0), (4, 0), (5, 0), (6, 0)] [0, 100] _)
            refine su_iaload hC dX10_ramBy_69 (?_ : SdS X 70 [(0, 20), (1, 0), (2, 0), (3, 0), (4, 0), (5, 0), (6, 0)] [0] _)
            refine su_istore (Γ' := [(0, 20), (1, 0), (2, 0), (3, 0), (4, 0), (5, 0), (6, 0), (7, 0)]) hC dX10_ramBy_70 (by rw [e2]; decide) (by decide) (?_ : SdS X 72 [(0, 20), (1, 0), (2, 0), (3, 0), (4, 0), (5, 0), (6, 0), (7, 0)] [] _)
            refine su_aload_n hC 20 dX10_ramBy_72 rfl (by decide) (by decide) (?_ : SdS X 73 [(0, 20), (1, 0), (2, 0), (3, 0), (4, 0), (5, 0), (6, 0), (7, 0)] [20] _)
            refine su_getR hC (ci := 10) (j := 16) (C := RX10) (T := TX10) (N := 45) rfl rfl (by decide) in_X10 wl_5_180 rfl dX10_ramBy_73 (?_ : SdS X 76 [(0, 20), (1, 0), (2, 0), (3, 0), (4, 0), (5, 0), (6, 0), (7, 0)] [100] _)
            refine su_iload hC dX10_ramBy_76 (by decide) (?_ : SdS X 78 [(0, 20), (1, 0), (2, 0), (3, 0), (4, 0), (5, 0), (6, 0), (7, 0)] [0, 100] _)
            refine su_iload hC dX10_ramBy_78 (by decide) (?_ : SdS X 80 [(0, 20), (1, 0), (2, 0), (3, 0), (4, 0), (5, 0), (6, 0), (7, 0)] [0, 0, 100] _)
            refine su_iload hC dX10_ramBy_80 (by decide) (?_ : SdS X 82 [(0, 20), (1, 0), (2, 0), (3, 0), (4, 0), (5, 0), (6, 0), (7, 0)] [0, 0, 0, 100] _)
            refine su_icmp_le (tgt := 90) hC dX10_ramBy_82 rfl (?_ : SdS X 90 [(0, 20), (1, 0), (2, 0), (3, 0), (4, 0), (5, 0), (6, 0), (7, 0)] [0, 100] _) (?_ : SdS X 85 [(0, 20), (1, 0), (2, 0), (3, 0), (4, 0), (5, 0), (6, 0), (7, 0)] [0, 100] _)
            · refine su_iload hC dX10_ramBy_90 (by decide) (?_ : SdS X 92 [(0, 20), (1, 0), (2, 0), (3, 0), (4, 0), (5, 0), (6, 0), (7, 0)] [0, 0, 100] _)
              exact SdS.weak (by decide) (S_92)
            · refine su_iload hC dX10_ramBy_85 (by decide) (?_ : SdS X 87 [(0, 20), (1, 0), (2, 0), (3, 0), (4, 0), (5, 0), (6, 0), (7, 0)] [0, 0, 100] _)
              refine su_goto (tgt := 92) hC dX10_ramBy_87 rfl (?_ : SdS X 92 [(0, 20), (1, 0), (2, 0), (3, 0), (4, 0), (5, 0), (6, 0), (7, 0)] [0, 0, 100] _)
              exact SdS.weak (by decide) (S_92)
          · exact SdS.weak (by decide) (S_49)
  · refine su_aload_n hC 20 dX10_ramBy_13 rfl (by decide) (by decide) (?_ : SdS X 14 [(0, 20), (1, 0), (2, 0), (3, 0), (4, 0), (5, 0)] [20] _)
    refine su_iconst hC dX10_ramBy_14 ⟨by decide, by decide⟩ (?_ : SdS X 15 [(0, 20), (1, 0), (2, 0), (3, 0), (4, 0), (5, 0)] [0, 20] _)
    refine su_inv0 (τ := []) (τr := [0]) (ci := 10) (q := (RX10, TX10, 45)) hC WG (M_X10_refused _) rfl rfl rfl rfl  rfl rfl wl_6_72 wl_6_74 wp_63 wl_1_10 wl_6_75 hd_X10_refused (by rw [e3]; decide) (by decide) dX10_ramBy_15 (?_ : SdS X 18 [(0, 20), (1, 0), (2, 0), (3, 0), (4, 0), (5, 0)] [0] _)
    exact su_ireturn hC hT dX10_ramBy_18
theorem hd_X10_saves : yX10_saves.cls ≠ "java/lang/invoke/MethodHandle" ∧ yX10_saves.cls ≠ "java/lang/invoke/VarHandle" ∧ (parseMethodDescriptor yX10_saves.desc).map (fun d => d.parameters.length) = some 3 := by decide +kernel
set_option maxRecDepth 100000 in
set_option maxHeartbeats 4000000 in
theorem M_X10_saves (l : Launch) : MtS l yX10_saves (Cond.code yX10_saves cX10_saves 4 (some .int) :: WALL) { frames := 9, cells := 0, slots := 0, locals := 222 } [20, 0, 0, 0] (some 0) T_X10_saves := by
  refine MtS.mk (B := E_X10_saves) (by decide +kernel) (by decide) (fun _ _ _ hh => hh) ?_
  intro X Q e1 e2 e3 hC hN hT
  subst e1
  have hC : CF X cX10_saves RX10 WALL := hC
  have S_37 : SdS X 37 [(0, 20), (1, 0), (2, 0), (3, 0)] [] (B_X10_saves_37 Q) := by
    unfold B_X10_saves_37
    refine su_aload_n hC 20 dX10_saves_37 rfl (by decide) (by decide) (?_ : SdS X 38 [(0, 20), (1, 0), (2, 0), (3, 0)] [20] _)
    refine su_iconst hC dX10_saves_38 ⟨by decide, by decide⟩ (?_ : SdS X 39 [(0, 20), (1, 0), (2, 0), (3, 0)] [0, 20] _)
    refine su_inv0 (τ := []) (τr := [0]) (ci := 10) (q := (RX10, TX10, 45)) hC WG (M_X10_refused _) rfl rfl rfl rfl  rfl rfl wl_6_72 wl_6_74 wp_63 wl_1_10 wl_6_75 hd_X10_refused (by rw [e3]; decide) (by decide) dX10_saves_39 (?_ : SdS X 42 [(0, 20), (1, 0), (2, 0), (3, 0)] [0] _)
    refine su_pop hC (by decide) dX10_saves_42 (?_ : SdS X 43 [(0, 20), (1, 0), (2, 0), (3, 0)] [] _)
    refine su_sipush hC dX10_saves_43 (by decide) (?_ : SdS X 46 [(0, 20), (1, 0), (2, 0), (3, 0)] [0] _)
    exact su_ireturn hC hT dX10_saves_46
  refine (?_ : SdS X 0 [(0, 20), (1, 0), (2, 0), (3, 0)] [] (E_X10_saves Q))
  unfold E_X10_saves
  refine su_aload_n hC 20 dX10_saves_0 rfl (by decide) (by decide) (?_ : SdS X 1 [(0, 20), (1, 0), (2, 0), (3, 0)] [20] _)
  refine su_iconst hC dX10_saves_1 ⟨by decide, by decide⟩ (?_ : SdS X 2 [(0, 20), (1, 0), (2, 0), (3, 0)] [0, 20] _)
  refine su_putF hC (ci := 10) (j := 0) (C := RX10) (T := TX10) (N := 45) tyX10 tyX10_ok nmX10 rfl rfl (by decide) in_X10 rfl rfl wl_5_164 rfl dX10_saves_2 (?_ : SdS X 5 [(0, 20), (1, 0), (2, 0), (3, 0)] [] _)
  refine su_aload_n hC 20 dX10_saves_5 rfl (by decide) (by decide) (?_ : SdS X 6 [(0, 20), (1, 0), (2, 0), (3, 0)] [20] _)
  refine su_iload_n hC dX10_saves_6 rfl (by decide) (?_ : SdS X 7 [(0, 20), (1, 0), (2, 0), (3, 0)] [0, 20] _)
  refine su_inv0 (τ := []) (τr := [0]) (ci := 10) (q := (RX10, TX10, 45)) hC WG (M_X10_isGate _) rfl rfl rfl rfl  rfl rfl wl_7_187 wl_7_189 wp_106 wl_1_10 wl_7_190 hd_X10_isGate (by rw [e3]; decide) (by decide) dX10_saves_7 (?_ : SdS X 10 [(0, 20), (1, 0), (2, 0), (3, 0)] [0] _)
  refine su_if_ne (tgt := 23) hC dX10_saves_10 rfl (?_ : SdS X 23 [(0, 20), (1, 0), (2, 0), (3, 0)] [] _) (?_ : SdS X 13 [(0, 20), (1, 0), (2, 0), (3, 0)] [] _)
  · refine su_iload_n hC dX10_saves_23 rfl (by decide) (?_ : SdS X 24 [(0, 20), (1, 0), (2, 0), (3, 0)] [0] _)
    refine su_invs (τ := []) (τs := [0]) hC false "" WG (M_X10_isSize _) rfl rfl rfl rfl wl_8_119 wl_8_120 wl_1_10 wl_8_121 hd_X10_isSize (by rw [e3]; decide) (by decide) dX10_saves_24 (?_ : SdS X 27 [(0, 20), (1, 0), (2, 0), (3, 0)] [0] _)
    refine su_if_eq (tgt := 37) hC dX10_saves_27 rfl (?_ : SdS X 37 [(0, 20), (1, 0), (2, 0), (3, 0)] [] _) (?_ : SdS X 30 [(0, 20), (1, 0), (2, 0), (3, 0)] [] _)
    · exact SdS.weak (by decide) (S_37)
    · refine su_iload_n hC dX10_saves_30 rfl (by decide) (?_ : SdS X 31 [(0, 20), (1, 0), (2, 0), (3, 0)] [0] _)
      refine su_invs (τ := []) (τs := [0]) hC false "" WG (M_X10_isSize _) rfl rfl rfl rfl wl_8_119 wl_8_120 wl_1_10 wl_8_121 hd_X10_isSize (by rw [e3]; decide) (by decide) dX10_saves_31 (?_ : SdS X 34 [(0, 20), (1, 0), (2, 0), (3, 0)] [0] _)
      refine su_if_ne (tgt := 47) hC dX10_saves_34 rfl (?_ : SdS X 47 [(0, 20), (1, 0), (2, 0), (3, 0)] [] _) (?_ : SdS X 37 [(0, 20), (1, 0), (2, 0), (3, 0)] [] _)
      · refine su_aload_n hC 20 dX10_saves_47 rfl (by decide) (by decide) (?_ : SdS X 48 [(0, 20), (1, 0), (2, 0), (3, 0)] [20] _)
        refine su_aload_n hC 20 dX10_saves_48 rfl (by decide) (by decide) (?_ : SdS X 49 [(0, 20), (1, 0), (2, 0), (3, 0)] [20, 20] _)
        refine su_iload_n hC dX10_saves_49 rfl (by decide) (?_ : SdS X 50 [(0, 20), (1, 0), (2, 0), (3, 0)] [0, 20, 20] _)
        refine su_iload_n hC dX10_saves_50 rfl (by decide) (?_ : SdS X 51 [(0, 20), (1, 0), (2, 0), (3, 0)] [0, 0, 20, 20] _)
        refine su_iload_n hC dX10_saves_51 rfl (by decide) (?_ : SdS X 52 [(0, 20), (1, 0), (2, 0), (3, 0)] [0, 0, 0, 20, 20] _)
        refine su_inv0 (τ := [20]) (τr := [0, 0, 0]) (ci := 10) (q := (RX10, TX10, 45)) hC WG (M_X10_savesBy _) rfl rfl rfl rfl  rfl rfl wl_8_122 wl_8_124 wp_126 wl_1_10 wl_8_125 hd_X10_savesBy (by rw [e3]; decide) (by decide) dX10_saves_52 (?_ : SdS X 55 [(0, 20), (1, 0), (2, 0), (3, 0)] [0, 20] _)
        refine su_inv0 (τ := []) (τr := [0]) (ci := 10) (q := (RX10, TX10, 45)) hC WG (M_X10_good _) rfl rfl rfl rfl  rfl rfl wl_7_171 wl_7_173 wp_105 wl_1_10 wl_7_174 hd_X10_good (by rw [e3]; decide) (by decide) dX10_saves_55 (?_ : SdS X 58 [(0, 20), (1, 0), (2, 0), (3, 0)] [0] _)
        exact su_ireturn hC hT dX10_saves_58
      · exact SdS.weak (by decide) (S_37)
  · refine su_aload_n hC 20 dX10_saves_13 rfl (by decide) (by decide) (?_ : SdS X 14 [(0, 20), (1, 0), (2, 0), (3, 0)] [20] _)
    refine su_iconst hC dX10_saves_14 ⟨by decide, by decide⟩ (?_ : SdS X 15 [(0, 20), (1, 0), (2, 0), (3, 0)] [0, 20] _)
    refine su_inv0 (τ := []) (τr := [0]) (ci := 10) (q := (RX10, TX10, 45)) hC WG (M_X10_refused _) rfl rfl rfl rfl  rfl rfl wl_6_72 wl_6_74 wp_63 wl_1_10 wl_6_75 hd_X10_refused (by rw [e3]; decide) (by decide) dX10_saves_15 (?_ : SdS X 18 [(0, 20), (1, 0), (2, 0), (3, 0)] [0] _)
    refine su_pop hC (by decide) dX10_saves_18 (?_ : SdS X 19 [(0, 20), (1, 0), (2, 0), (3, 0)] [] _)
    refine su_sipush hC dX10_saves_19 (by decide) (?_ : SdS X 22 [(0, 20), (1, 0), (2, 0), (3, 0)] [0] _)
    exact su_ireturn hC hT dX10_saves_22
theorem hd_X10_size : yX10_size.cls ≠ "java/lang/invoke/MethodHandle" ∧ yX10_size.cls ≠ "java/lang/invoke/VarHandle" ∧ (parseMethodDescriptor yX10_size.desc).map (fun d => d.parameters.length) = some 1 := by decide +kernel
set_option maxRecDepth 100000 in
set_option maxHeartbeats 4000000 in
theorem M_X10_size (l : Launch) : MtS l yX10_size (Cond.code yX10_size cX10_size 2 (some .int) :: WALL) { frames := 1, cells := 0, slots := 0, locals := 22 } [20, 0] (some 0) T_X10_size := by
  refine MtS.mk (B := E_X10_size) (by decide +kernel) (by decide) (fun _ _ _ hh => hh) ?_
  intro X Q e1 e2 e3 hC hN hT
  subst e1
  have hC : CF X cX10_size RX10 WALL := hC
  refine (?_ : SdS X 0 [(0, 20), (1, 0)] [] (E_X10_size Q))
  unfold E_X10_size
  refine su_aload_n hC 20 dX10_size_0 rfl (by decide) (by decide) (?_ : SdS X 1 [(0, 20), (1, 0)] [20] _)
  refine su_iconst hC dX10_size_1 ⟨by decide, by decide⟩ (?_ : SdS X 2 [(0, 20), (1, 0)] [0, 20] _)
  refine su_putF hC (ci := 10) (j := 0) (C := RX10) (T := TX10) (N := 45) tyX10 tyX10_ok nmX10 rfl rfl (by decide) in_X10 rfl rfl wl_5_164 rfl dX10_size_2 (?_ : SdS X 5 [(0, 20), (1, 0)] [] _)
  refine su_iload_n hC dX10_size_5 rfl (by decide) (?_ : SdS X 6 [(0, 20), (1, 0)] [0] _)
  refine su_bipush hC dX10_size_6 (by decide) (?_ : SdS X 8 [(0, 20), (1, 0)] [0, 0] _)
  refine su_icmp_ne (tgt := 16) hC dX10_size_8 rfl (?_ : SdS X 16 [(0, 20), (1, 0)] [] _) (?_ : SdS X 11 [(0, 20), (1, 0)] [] _)
  · refine su_iload_n hC dX10_size_16 rfl (by decide) (?_ : SdS X 17 [(0, 20), (1, 0)] [0] _)
    refine su_iconst hC dX10_size_17 ⟨by decide, by decide⟩ (?_ : SdS X 18 [(0, 20), (1, 0)] [0, 0] _)
    refine su_bipush hC dX10_size_18 (by decide) (?_ : SdS X 20 [(0, 20), (1, 0)] [0, 0, 0] _)
    refine su_invs (τ := []) (τs := [0, 0, 0]) hC false "" WG (M_X10_in _) rfl rfl rfl rfl wl_6_238 wl_6_239 wl_1_10 wl_7_0 hd_X10_in (by rw [e3]; decide) (by decide) dX10_size_20 (?_ : SdS X 23 [(0, 20), (1, 0)] [0] _)
    refine su_if_ne (tgt := 28) hC dX10_size_23 rfl (?_ : SdS X 28 [(0, 20), (1, 0)] [] _) (?_ : SdS X 26 [(0, 20), (1, 0)] [] _)
    · refine su_aload_n hC 20 dX10_size_28 rfl (by decide) (by decide) (?_ : SdS X 29 [(0, 20), (1, 0)] [20] _)
      refine su_getR hC (ci := 10) (j := 3) (C := RX10) (T := TX10) (N := 45) rfl rfl (by decide) in_X10 wl_5_167 rfl dX10_size_29 (?_ : SdS X 32 [(0, 20), (1, 0)] [19] _)
      refine su_ifnonnull (tgt := 37) hC (by decide) dX10_size_32 rfl (?_ : SdS X 37 [(0, 20), (1, 0)] [] _) (?_ : SdS X 35 [(0, 20), (1, 0)] [] _)
      · refine su_iload_n hC dX10_size_37 rfl (by decide) (?_ : SdS X 38 [(0, 20), (1, 0)] [0] _)
        refine su_tsw (td := 131) hC dX10_size_38 rfl rfl ?_ (?_ : SdS X 131 [(0, 20), (1, 0)] [] _)
        · intro j kj hj
          match j, hj with
          | 0, hj =>
            cases hj
            refine ⟨_, 80, rfl, rfl, (?_ : SdS X 80 [(0, 20), (1, 0)] [] _)⟩
            refine su_aload_n hC 20 dX10_size_80 rfl (by decide) (by decide) (?_ : SdS X 81 [(0, 20), (1, 0)] [20] _)
            refine su_getR hC (ci := 10) (j := 3) (C := RX10) (T := TX10) (N := 45) rfl rfl (by decide) in_X10 wl_5_167 rfl dX10_size_81 (?_ : SdS X 84 [(0, 20), (1, 0)] [19] _)
            refine su_getFN hC (ci := 9) (j := 0) (C := RX9) (T := TX9) (N := 28) (host := "NarrowRingsModel") rfl rfl (by decide) in_X9 (by decide) rfl dX10_size_84 (?_ : SdS X 87 [(0, 20), (1, 0)] [0] _)
            exact su_ireturn hC hT dX10_size_87
          | 1, hj =>
            cases hj
            refine ⟨_, 88, rfl, rfl, (?_ : SdS X 88 [(0, 20), (1, 0)] [] _)⟩
            refine su_aload_n hC 20 dX10_size_88 rfl (by decide) (by decide) (?_ : SdS X 89 [(0, 20), (1, 0)] [20] _)
            refine su_getF hC (ci := 10) (j := 17) (C := RX10) (T := TX10) (N := 45) rfl rfl (by decide) in_X10 wl_5_181 rfl dX10_size_89 (?_ : SdS X 92 [(0, 20), (1, 0)] [0] _)
            exact su_ireturn hC hT dX10_size_92
          | 2, hj =>
            cases hj
            refine ⟨_, 93, rfl, rfl, (?_ : SdS X 93 [(0, 20), (1, 0)] [] _)⟩
            refine su_aload_n hC 20 dX10_size_93 rfl (by decide) (by decide) (?_ : SdS X 94 [(0, 20), (1, 0)] [20] _)
            refine su_getR hC (ci := 10) (j := 3) (C := RX10) (T := TX10) (N := 45) rfl rfl (by decide) in_X10 wl_5_167 rfl dX10_size_94 (?_ : SdS X 97 [(0, 20), (1, 0)] [19] _)
            refine su_getFN hC (ci := 9) (j := 2) (C := RX9) (T := TX9) (N := 28) (host := "NarrowRingsModel") rfl rfl (by decide) in_X9 (by decide) rfl dX10_size_97 (?_ : SdS X 100 [(0, 20), (1, 0)] [0] _)
            exact su_ireturn hC hT dX10_size_100
          | 3, hj =>
            cases hj
            refine ⟨_, 101, rfl, rfl, (?_ : SdS X 101 [(0, 20), (1, 0)] [] _)⟩
            refine su_aload_n hC 20 dX10_size_101 rfl (by decide) (by decide) (?_ : SdS X 102 [(0, 20), (1, 0)] [20] _)
            refine su_getR hC (ci := 10) (j := 3) (C := RX10) (T := TX10) (N := 45) rfl rfl (by decide) in_X10 wl_5_167 rfl dX10_size_102 (?_ : SdS X 105 [(0, 20), (1, 0)] [19] _)
            refine su_getFN hC (ci := 9) (j := 3) (C := RX9) (T := TX9) (N := 28) (host := "NarrowRingsModel") rfl rfl (by decide) in_X9 (by decide) rfl dX10_size_105 (?_ : SdS X 108 [(0, 20), (1, 0)] [0] _)
            exact su_ireturn hC hT dX10_size_108
          | 4, hj =>
            cases hj
            refine ⟨_, 109, rfl, rfl, (?_ : SdS X 109 [(0, 20), (1, 0)] [] _)⟩
            refine su_aload_n hC 20 dX10_size_109 rfl (by decide) (by decide) (?_ : SdS X 110 [(0, 20), (1, 0)] [20] _)
            refine su_getR hC (ci := 10) (j := 3) (C := RX10) (T := TX10) (N := 45) rfl rfl (by decide) in_X10 wl_5_167 rfl dX10_size_110 (?_ : SdS X 113 [(0, 20), (1, 0)] [19] _)
            refine su_getFN hC (ci := 9) (j := 4) (C := RX9) (T := TX9) (N := 28) (host := "NarrowRingsModel") rfl rfl (by decide) in_X9 (by decide) rfl dX10_size_113 (?_ : SdS X 116 [(0, 20), (1, 0)] [0] _)
            exact su_ireturn hC hT dX10_size_116
          | 5, hj =>
            cases hj
            refine ⟨_, 117, rfl, rfl, (?_ : SdS X 117 [(0, 20), (1, 0)] [] _)⟩
            refine su_aload_n hC 20 dX10_size_117 rfl (by decide) (by decide) (?_ : SdS X 118 [(0, 20), (1, 0)] [20] _)
            refine su_getR hC (ci := 10) (j := 32) (C := RX10) (T := TX10) (N := 45) rfl rfl (by decide) in_X10 wl_5_196 rfl dX10_size_118 (?_ : SdS X 121 [(0, 20), (1, 0)] [100] _)
            refine su_sipush hC dX10_size_121 (by decide) (?_ : SdS X 124 [(0, 20), (1, 0)] [0, 100] _)
            refine su_iaload hC dX10_size_124 (?_ : SdS X 125 [(0, 20), (1, 0)] [0] _)
            exact su_ireturn hC hT dX10_size_125
          | 6, hj =>
            cases hj
            refine ⟨_, 126, rfl, rfl, (?_ : SdS X 126 [(0, 20), (1, 0)] [] _)⟩
            refine su_aload_n hC 20 dX10_size_126 rfl (by decide) (by decide) (?_ : SdS X 127 [(0, 20), (1, 0)] [20] _)
            refine su_getF hC (ci := 10) (j := 39) (C := RX10) (T := TX10) (N := 45) rfl rfl (by decide) in_X10 wl_5_203 rfl dX10_size_127 (?_ : SdS X 130 [(0, 20), (1, 0)] [0] _)
            exact su_ireturn hC hT dX10_size_130
          | j + 7, hj => exact absurd hj (by simp)
        · refine su_aload_n hC 20 dX10_size_131 rfl (by decide) (by decide) (?_ : SdS X 132 [(0, 20), (1, 0)] [20] _)
          refine su_getF hC (ci := 10) (j := 44) (C := RX10) (T := TX10) (N := 45) rfl rfl (by decide) in_X10 wl_5_208 rfl dX10_size_132 (?_ : SdS X 135 [(0, 20), (1, 0)] [0] _)
          exact su_ireturn hC hT dX10_size_135
      · refine su_iconst hC dX10_size_35 ⟨by decide, by decide⟩ (?_ : SdS X 36 [(0, 20), (1, 0)] [0] _)
        exact su_ireturn hC hT dX10_size_36
    · refine su_iconst hC dX10_size_26 ⟨by decide, by decide⟩ (?_ : SdS X 27 [(0, 20), (1, 0)] [0] _)
      exact su_ireturn hC hT dX10_size_27
  · refine su_aload_n hC 20 dX10_size_11 rfl (by decide) (by decide) (?_ : SdS X 12 [(0, 20), (1, 0)] [20] _)
    refine su_getF hC (ci := 10) (j := 6) (C := RX10) (T := TX10) (N := 45) rfl rfl (by decide) in_X10 wl_5_170 rfl dX10_size_12 (?_ : SdS X 15 [(0, 20), (1, 0)] [0] _)
    exact su_ireturn hC hT dX10_size_15
theorem wl_8_163 : Cond.methodLink RX10 523 yX10_lowers ∈ WALL := tb8 (List.mem_of_getElem? (i := 163) rfl) rfl
theorem wl_8_164 : Cond.static yX10_lowers ∈ WALL := tb8 (List.mem_of_getElem? (i := 164) rfl) rfl
theorem wl_8_165 : Cond.code yX10_lowers cX10_lowers 3 (some .boolean) ∈ WALL := tb8 (List.mem_of_getElem? (i := 165) rfl) rfl
theorem hd_X10_spreads : yX10_spreads.cls ≠ "java/lang/invoke/MethodHandle" ∧ yX10_spreads.cls ≠ "java/lang/invoke/VarHandle" ∧ (parseMethodDescriptor yX10_spreads.desc).map (fun d => d.parameters.length) = some 1 := by decide +kernel
set_option maxRecDepth 100000 in
set_option maxHeartbeats 4000000 in
theorem M_X10_spreads (l : Launch) : MtS l yX10_spreads (Cond.code yX10_spreads cX10_spreads 5 none :: WALL) { frames := 4, cells := 0, slots := 0, locals := 90 } [20, 100] none T_X10_spreads := by
  refine MtS.mk (B := E_X10_spreads) (by decide +kernel) (by decide) (fun _ _ _ hh => hh) ?_
  intro X Q e1 e2 e3 hC hN hT
  subst e1
  have hC : CF X cX10_spreads RX10 WALL := hC
  have S_200 : ∀ (k2 : xK), SdS X 2 [(0, 20), (1, 100), (2, 0)] [] k2 → ∀ (k119 : xK), SdS X 119 [(0, 20), (1, 100), (2, 0), (3, 0)] [] k119 → SdS X 200 [(0, 20), (1, 100), (2, 0), (3, 0)] [] (B_X10_spreads_200 Q k2 k119) := by
    intro k2 h2 k119 h119
    unfold B_X10_spreads_200
    refine su_iinc (Γ' := [(0, 20), (1, 100), (2, 0), (3, 0)]) hC dX10_spreads_200 (by decide) (by rw [e2]; decide) (by decide) (?_ : SdS X 203 [(0, 20), (1, 100), (2, 0), (3, 0)] [] _)
    refine su_goto (tgt := 119) hC dX10_spreads_203 rfl (?_ : SdS X 119 [(0, 20), (1, 100), (2, 0), (3, 0)] [] _)
    exact SdS.weak (by decide) h119
  have S_119 : ∀ (k2 : xK), SdS X 2 [(0, 20), (1, 100), (2, 0)] [] k2 → SdS X 119 [(0, 20), (1, 100), (2, 0), (3, 0)] [] (L_X10_spreads_119 Q k2) := by
    intro k2 h2
    unfold L_X10_spreads_119
    refine SdS.loop (fun k119 h119 => ?_)
    refine su_iload_n hC dX10_spreads_119 rfl (by decide) (?_ : SdS X 120 [(0, 20), (1, 100), (2, 0), (3, 0)] [0] _)
    refine su_aload_n hC 20 dX10_spreads_120 rfl (by decide) (by decide) (?_ : SdS X 121 [(0, 20), (1, 100), (2, 0), (3, 0)] [20, 0] _)
    refine su_getF hC (ci := 10) (j := 17) (C := RX10) (T := TX10) (N := 45) rfl rfl (by decide) in_X10 wl_5_181 rfl dX10_spreads_121 (?_ : SdS X 124 [(0, 20), (1, 100), (2, 0), (3, 0)] [0, 0] _)
    refine su_icmp_ge (tgt := 206) hC dX10_spreads_124 rfl (?_ : SdS X 206 [(0, 20), (1, 100), (2, 0), (3, 0)] [] _) (?_ : SdS X 127 [(0, 20), (1, 100), (2, 0), (3, 0)] [] _)
    · refine su_goto (tgt := 2) hC dX10_spreads_206 rfl (?_ : SdS X 2 [(0, 20), (1, 100), (2, 0), (3, 0)] [] _)
      exact SdS.weak (by decide) h2
    · refine su_aload_n hC 20 dX10_spreads_127 rfl (by decide) (by decide) (?_ : SdS X 128 [(0, 20), (1, 100), (2, 0), (3, 0)] [20] _)
      refine su_iload_n hC dX10_spreads_128 rfl (by decide) (?_ : SdS X 129 [(0, 20), (1, 100), (2, 0), (3, 0)] [0, 20] _)
      refine su_inv0 (τ := []) (τr := [0]) (ci := 10) (q := (RX10, TX10, 45)) hC WG (M_X10_goesThrough _) rfl rfl rfl rfl  rfl rfl wl_7_135 wl_7_137 wp_97 wl_1_10 wl_7_138 hd_X10_goesThrough (by rw [e3]; decide) (by decide) dX10_spreads_129 (?_ : SdS X 132 [(0, 20), (1, 100), (2, 0), (3, 0)] [0] _)
      refine su_if_ne (tgt := 138) hC dX10_spreads_132 rfl (?_ : SdS X 138 [(0, 20), (1, 100), (2, 0), (3, 0)] [] _) (?_ : SdS X 135 [(0, 20), (1, 100), (2, 0), (3, 0)] [] _)
      · refine su_bipush hC dX10_spreads_138 (by decide) (?_ : SdS X 140 [(0, 20), (1, 100), (2, 0), (3, 0)] [0] _)
        refine su_aload_n hC 20 dX10_spreads_140 rfl (by decide) (by decide) (?_ : SdS X 141 [(0, 20), (1, 100), (2, 0), (3, 0)] [20, 0] _)
        refine su_iload_n hC dX10_spreads_141 rfl (by decide) (?_ : SdS X 142 [(0, 20), (1, 100), (2, 0), (3, 0)] [0, 20, 0] _)
        refine su_iconst hC dX10_spreads_142 ⟨by decide, by decide⟩ (?_ : SdS X 143 [(0, 20), (1, 100), (2, 0), (3, 0)] [0, 0, 20, 0] _)
        refine su_inv0 (τ := [0]) (τr := [0, 0]) (ci := 10) (q := (RX10, TX10, 45)) hC WG (M_X10_of _) rfl rfl rfl rfl  rfl rfl wl_7_131 wl_7_133 wp_96 wl_1_10 wl_7_134 hd_X10_of (by rw [e3]; decide) (by decide) dX10_spreads_143 (?_ : SdS X 146 [(0, 20), (1, 100), (2, 0), (3, 0)] [0, 0] _)
        refine su_imul hC dX10_spreads_146 (?_ : SdS X 147 [(0, 20), (1, 100), (2, 0), (3, 0)] [0] _)
        refine su_aload_n hC 20 dX10_spreads_147 rfl (by decide) (by decide) (?_ : SdS X 148 [(0, 20), (1, 100), (2, 0), (3, 0)] [20, 0] _)
        refine su_iload_n hC dX10_spreads_148 rfl (by decide) (?_ : SdS X 149 [(0, 20), (1, 100), (2, 0), (3, 0)] [0, 20, 0] _)
        refine su_iconst hC dX10_spreads_149 ⟨by decide, by decide⟩ (?_ : SdS X 150 [(0, 20), (1, 100), (2, 0), (3, 0)] [0, 0, 20, 0] _)
        refine su_inv0 (τ := [0]) (τr := [0, 0]) (ci := 10) (q := (RX10, TX10, 45)) hC WG (M_X10_of _) rfl rfl rfl rfl  rfl rfl wl_7_131 wl_7_133 wp_96 wl_1_10 wl_7_134 hd_X10_of (by rw [e3]; decide) (by decide) dX10_spreads_150 (?_ : SdS X 153 [(0, 20), (1, 100), (2, 0), (3, 0)] [0, 0] _)
        refine su_iadd hC dX10_spreads_153 (?_ : SdS X 154 [(0, 20), (1, 100), (2, 0), (3, 0)] [0] _)
        refine su_istore (Γ' := [(0, 20), (1, 100), (2, 0), (3, 0), (4, 0)]) hC dX10_spreads_154 (by rw [e2]; decide) (by decide) (?_ : SdS X 156 [(0, 20), (1, 100), (2, 0), (3, 0), (4, 0)] [] _)
        refine su_iload_n hC dX10_spreads_156 rfl (by decide) (?_ : SdS X 157 [(0, 20), (1, 100), (2, 0), (3, 0), (4, 0)] [0] _)
        refine su_aload_n hC 100 dX10_spreads_157 rfl (by decide) (by decide) (?_ : SdS X 158 [(0, 20), (1, 100), (2, 0), (3, 0), (4, 0)] [100, 0] _)
        refine su_iload hC dX10_spreads_158 (by decide) (?_ : SdS X 160 [(0, 20), (1, 100), (2, 0), (3, 0), (4, 0)] [0, 100, 0] _)
        refine su_aload_n hC 100 dX10_spreads_160 rfl (by decide) (by decide) (?_ : SdS X 161 [(0, 20), (1, 100), (2, 0), (3, 0), (4, 0)] [100, 0, 100, 0] _)
        refine su_iload hC dX10_spreads_161 (by decide) (?_ : SdS X 163 [(0, 20), (1, 100), (2, 0), (3, 0), (4, 0)] [0, 100, 0, 100, 0] _)
        refine su_bipush hC dX10_spreads_163 (by decide) (?_ : SdS X 165 [(0, 20), (1, 100), (2, 0), (3, 0), (4, 0)] [0, 0, 100, 0, 100, 0] _)
        refine su_iadd hC dX10_spreads_165 (?_ : SdS X 166 [(0, 20), (1, 100), (2, 0), (3, 0), (4, 0)] [0, 100, 0, 100, 0] _)
        refine su_iaload hC dX10_spreads_166 (?_ : SdS X 167 [(0, 20), (1, 100), (2, 0), (3, 0), (4, 0)] [0, 0, 100, 0] _)
        refine su_aload_n hC 20 dX10_spreads_167 rfl (by decide) (by decide) (?_ : SdS X 168 [(0, 20), (1, 100), (2, 0), (3, 0), (4, 0)] [20, 0, 0, 100, 0] _)
        refine su_iload_n hC dX10_spreads_168 rfl (by decide) (?_ : SdS X 169 [(0, 20), (1, 100), (2, 0), (3, 0), (4, 0)] [0, 20, 0, 0, 100, 0] _)
        refine su_inv0 (τ := [0, 0, 100, 0]) (τr := [0]) (ci := 10) (q := (RX10, TX10, 45)) hC WG (M_X10_hoursAt _) rfl rfl rfl rfl  rfl rfl wl_7_159 wl_7_161 wp_103 wl_1_10 wl_7_162 hd_X10_hoursAt (by rw [e3]; decide) (by decide) dX10_spreads_169 (?_ : SdS X 172 [(0, 20), (1, 100), (2, 0), (3, 0), (4, 0)] [0, 0, 0, 100, 0] _)
        refine su_iadd hC dX10_spreads_172 (?_ : SdS X 173 [(0, 20), (1, 100), (2, 0), (3, 0), (4, 0)] [0, 0, 100, 0] _)
        refine su_invs (τ := [0]) (τs := [100, 0, 0]) hC false "" WG (M_X10_lowers _) rfl rfl rfl rfl wl_8_163 wl_8_164 wl_1_10 wl_8_165 hd_X10_lowers (by rw [e3]; decide) (by decide) dX10_spreads_173 (?_ : SdS X 176 [(0, 20), (1, 100), (2, 0), (3, 0), (4, 0)] [0, 0] _)
        refine su_ior hC dX10_spreads_176 (?_ : SdS X 177 [(0, 20), (1, 100), (2, 0), (3, 0), (4, 0)] [0] _)
        refine su_istore_n (Γ' := [(0, 20), (1, 100), (2, 0), (3, 0), (4, 0)]) hC dX10_spreads_177 rfl (by rw [e2]; decide) (by decide) (?_ : SdS X 178 [(0, 20), (1, 100), (2, 0), (3, 0), (4, 0)] [] _)
        refine su_iload_n hC dX10_spreads_178 rfl (by decide) (?_ : SdS X 179 [(0, 20), (1, 100), (2, 0), (3, 0), (4, 0)] [0] _)
        refine su_aload_n hC 100 dX10_spreads_179 rfl (by decide) (by decide) (?_ : SdS X 180 [(0, 20), (1, 100), (2, 0), (3, 0), (4, 0)] [100, 0] _)
        refine su_iload hC dX10_spreads_180 (by decide) (?_ : SdS X 182 [(0, 20), (1, 100), (2, 0), (3, 0), (4, 0)] [0, 100, 0] _)
        refine su_bipush hC dX10_spreads_182 (by decide) (?_ : SdS X 184 [(0, 20), (1, 100), (2, 0), (3, 0), (4, 0)] [0, 0, 100, 0] _)
        refine su_iadd hC dX10_spreads_184 (?_ : SdS X 185 [(0, 20), (1, 100), (2, 0), (3, 0), (4, 0)] [0, 100, 0] _)
        refine su_aload_n hC 100 dX10_spreads_185 rfl (by decide) (by decide) (?_ : SdS X 186 [(0, 20), (1, 100), (2, 0), (3, 0), (4, 0)] [100, 0, 100, 0] _)
        refine su_iload hC dX10_spreads_186 (by decide) (?_ : SdS X 188 [(0, 20), (1, 100), (2, 0), (3, 0), (4, 0)] [0, 100, 0, 100, 0] _)
        refine su_iaload hC dX10_spreads_188 (?_ : SdS X 189 [(0, 20), (1, 100), (2, 0), (3, 0), (4, 0)] [0, 0, 100, 0] _)
        refine su_aload_n hC 20 dX10_spreads_189 rfl (by decide) (by decide) (?_ : SdS X 190 [(0, 20), (1, 100), (2, 0), (3, 0), (4, 0)] [20, 0, 0, 100, 0] _)
        refine su_iload_n hC dX10_spreads_190 rfl (by decide) (?_ : SdS X 191 [(0, 20), (1, 100), (2, 0), (3, 0), (4, 0)] [0, 20, 0, 0, 100, 0] _)
        refine su_inv0 (τ := [0, 0, 100, 0]) (τr := [0]) (ci := 10) (q := (RX10, TX10, 45)) hC WG (M_X10_hoursAt _) rfl rfl rfl rfl  rfl rfl wl_7_159 wl_7_161 wp_103 wl_1_10 wl_7_162 hd_X10_hoursAt (by rw [e3]; decide) (by decide) dX10_spreads_191 (?_ : SdS X 194 [(0, 20), (1, 100), (2, 0), (3, 0), (4, 0)] [0, 0, 0, 100, 0] _)
        refine su_iadd hC dX10_spreads_194 (?_ : SdS X 195 [(0, 20), (1, 100), (2, 0), (3, 0), (4, 0)] [0, 0, 100, 0] _)
        refine su_invs (τ := [0]) (τs := [100, 0, 0]) hC false "" WG (M_X10_lowers _) rfl rfl rfl rfl wl_8_163 wl_8_164 wl_1_10 wl_8_165 hd_X10_lowers (by rw [e3]; decide) (by decide) dX10_spreads_195 (?_ : SdS X 198 [(0, 20), (1, 100), (2, 0), (3, 0), (4, 0)] [0, 0] _)
        refine su_ior hC dX10_spreads_198 (?_ : SdS X 199 [(0, 20), (1, 100), (2, 0), (3, 0), (4, 0)] [0] _)
        refine su_istore_n (Γ' := [(0, 20), (1, 100), (2, 0), (3, 0), (4, 0)]) hC dX10_spreads_199 rfl (by rw [e2]; decide) (by decide) (?_ : SdS X 200 [(0, 20), (1, 100), (2, 0), (3, 0), (4, 0)] [] _)
        exact SdS.weak (by decide) (S_200 k2 h2 k119 h119)
      · refine su_goto (tgt := 200) hC dX10_spreads_135 rfl (?_ : SdS X 200 [(0, 20), (1, 100), (2, 0), (3, 0)] [] _)
        exact SdS.weak (by decide) (S_200 k2 h2 k119 h119)
  have S_111 : ∀ (k2 : xK), SdS X 2 [(0, 20), (1, 100), (2, 0)] [] k2 → ∀ (k10 : xK), SdS X 10 [(0, 20), (1, 100), (2, 0), (3, 0)] [] k10 → SdS X 111 [(0, 20), (1, 100), (2, 0), (3, 0)] [] (B_X10_spreads_111 Q k2 k10) := by
    intro k2 h2 k10 h10
    unfold B_X10_spreads_111
    refine su_iinc (Γ' := [(0, 20), (1, 100), (2, 0), (3, 0)]) hC dX10_spreads_111 (by decide) (by rw [e2]; decide) (by decide) (?_ : SdS X 114 [(0, 20), (1, 100), (2, 0), (3, 0)] [] _)
    refine su_goto (tgt := 10) hC dX10_spreads_114 rfl (?_ : SdS X 10 [(0, 20), (1, 100), (2, 0), (3, 0)] [] _)
    exact SdS.weak (by decide) h10
  have S_35 : ∀ (k2 : xK), SdS X 2 [(0, 20), (1, 100), (2, 0)] [] k2 → ∀ (k10 : xK), SdS X 10 [(0, 20), (1, 100), (2, 0), (3, 0)] [] k10 → SdS X 35 [(0, 20), (1, 100), (2, 0), (3, 0), (4, 0)] [] (L_X10_spreads_35 Q k2 k10) := by
    intro k2 h2 k10 h10
    unfold L_X10_spreads_35
    refine SdS.loop (fun k35 h35 => ?_)
    refine su_iload hC dX10_spreads_35 (by decide) (?_ : SdS X 37 [(0, 20), (1, 100), (2, 0), (3, 0), (4, 0)] [0] _)
    refine su_bipush hC dX10_spreads_37 (by decide) (?_ : SdS X 39 [(0, 20), (1, 100), (2, 0), (3, 0), (4, 0)] [0, 0] _)
    refine su_icmp_ge (tgt := 111) hC dX10_spreads_39 rfl (?_ : SdS X 111 [(0, 20), (1, 100), (2, 0), (3, 0), (4, 0)] [] _) (?_ : SdS X 42 [(0, 20), (1, 100), (2, 0), (3, 0), (4, 0)] [] _)
    · exact SdS.weak (by decide) (S_111 k2 h2 k10 h10)
    · refine su_iload_n hC dX10_spreads_42 rfl (by decide) (?_ : SdS X 43 [(0, 20), (1, 100), (2, 0), (3, 0), (4, 0)] [0] _)
      refine su_aload_n hC 100 dX10_spreads_43 rfl (by decide) (by decide) (?_ : SdS X 44 [(0, 20), (1, 100), (2, 0), (3, 0), (4, 0)] [100, 0] _)
      refine su_bipush hC dX10_spreads_44 (by decide) (?_ : SdS X 46 [(0, 20), (1, 100), (2, 0), (3, 0), (4, 0)] [0, 100, 0] _)
      refine su_iload_n hC dX10_spreads_46 rfl (by decide) (?_ : SdS X 47 [(0, 20), (1, 100), (2, 0), (3, 0), (4, 0)] [0, 0, 100, 0] _)
      refine su_imul hC dX10_spreads_47 (?_ : SdS X 48 [(0, 20), (1, 100), (2, 0), (3, 0), (4, 0)] [0, 100, 0] _)
      refine su_iload hC dX10_spreads_48 (by decide) (?_ : SdS X 50 [(0, 20), (1, 100), (2, 0), (3, 0), (4, 0)] [0, 0, 100, 0] _)
      refine su_iadd hC dX10_spreads_50 (?_ : SdS X 51 [(0, 20), (1, 100), (2, 0), (3, 0), (4, 0)] [0, 100, 0] _)
      refine su_aload_n hC 100 dX10_spreads_51 rfl (by decide) (by decide) (?_ : SdS X 52 [(0, 20), (1, 100), (2, 0), (3, 0), (4, 0)] [100, 0, 100, 0] _)
      refine su_bipush hC dX10_spreads_52 (by decide) (?_ : SdS X 54 [(0, 20), (1, 100), (2, 0), (3, 0), (4, 0)] [0, 100, 0, 100, 0] _)
      refine su_iload_n hC dX10_spreads_54 rfl (by decide) (?_ : SdS X 55 [(0, 20), (1, 100), (2, 0), (3, 0), (4, 0)] [0, 0, 100, 0, 100, 0] _)
      refine su_imul hC dX10_spreads_55 (?_ : SdS X 56 [(0, 20), (1, 100), (2, 0), (3, 0), (4, 0)] [0, 100, 0, 100, 0] _)
      refine su_iload hC dX10_spreads_56 (by decide) (?_ : SdS X 58 [(0, 20), (1, 100), (2, 0), (3, 0), (4, 0)] [0, 0, 100, 0, 100, 0] _)
      refine su_iconst hC dX10_spreads_58 ⟨by decide, by decide⟩ (?_ : SdS X 59 [(0, 20), (1, 100), (2, 0), (3, 0), (4, 0)] [0, 0, 0, 100, 0, 100, 0] _)
      refine su_iadd hC dX10_spreads_59 (?_ : SdS X 60 [(0, 20), (1, 100), (2, 0), (3, 0), (4, 0)] [0, 0, 100, 0, 100, 0] _)
      refine su_bipush hC dX10_spreads_60 (by decide) (?_ : SdS X 62 [(0, 20), (1, 100), (2, 0), (3, 0), (4, 0)] [0, 0, 0, 100, 0, 100, 0] _)
      refine su_irem hC dX10_spreads_62 (?_ : SdS X 63 [(0, 20), (1, 100), (2, 0), (3, 0), (4, 0)] [0, 0, 100, 0, 100, 0] _)
      refine su_iadd hC dX10_spreads_63 (?_ : SdS X 64 [(0, 20), (1, 100), (2, 0), (3, 0), (4, 0)] [0, 100, 0, 100, 0] _)
      refine su_iaload hC dX10_spreads_64 (?_ : SdS X 65 [(0, 20), (1, 100), (2, 0), (3, 0), (4, 0)] [0, 0, 100, 0] _)
      refine su_iconst hC dX10_spreads_65 ⟨by decide, by decide⟩ (?_ : SdS X 66 [(0, 20), (1, 100), (2, 0), (3, 0), (4, 0)] [0, 0, 0, 100, 0] _)
      refine su_iadd hC dX10_spreads_66 (?_ : SdS X 67 [(0, 20), (1, 100), (2, 0), (3, 0), (4, 0)] [0, 0, 100, 0] _)
      refine su_invs (τ := [0]) (τs := [100, 0, 0]) hC false "" WG (M_X10_lowers _) rfl rfl rfl rfl wl_8_163 wl_8_164 wl_1_10 wl_8_165 hd_X10_lowers (by rw [e3]; decide) (by decide) dX10_spreads_67 (?_ : SdS X 70 [(0, 20), (1, 100), (2, 0), (3, 0), (4, 0)] [0, 0] _)
      refine su_ior hC dX10_spreads_70 (?_ : SdS X 71 [(0, 20), (1, 100), (2, 0), (3, 0), (4, 0)] [0] _)
      refine su_istore_n (Γ' := [(0, 20), (1, 100), (2, 0), (3, 0), (4, 0)]) hC dX10_spreads_71 rfl (by rw [e2]; decide) (by decide) (?_ : SdS X 72 [(0, 20), (1, 100), (2, 0), (3, 0), (4, 0)] [] _)
      refine su_iload_n hC dX10_spreads_72 rfl (by decide) (?_ : SdS X 73 [(0, 20), (1, 100), (2, 0), (3, 0), (4, 0)] [0] _)
      refine su_aload_n hC 100 dX10_spreads_73 rfl (by decide) (by decide) (?_ : SdS X 74 [(0, 20), (1, 100), (2, 0), (3, 0), (4, 0)] [100, 0] _)
      refine su_bipush hC dX10_spreads_74 (by decide) (?_ : SdS X 76 [(0, 20), (1, 100), (2, 0), (3, 0), (4, 0)] [0, 100, 0] _)
      refine su_iload_n hC dX10_spreads_76 rfl (by decide) (?_ : SdS X 77 [(0, 20), (1, 100), (2, 0), (3, 0), (4, 0)] [0, 0, 100, 0] _)
      refine su_imul hC dX10_spreads_77 (?_ : SdS X 78 [(0, 20), (1, 100), (2, 0), (3, 0), (4, 0)] [0, 100, 0] _)
      refine su_iload hC dX10_spreads_78 (by decide) (?_ : SdS X 80 [(0, 20), (1, 100), (2, 0), (3, 0), (4, 0)] [0, 0, 100, 0] _)
      refine su_iadd hC dX10_spreads_80 (?_ : SdS X 81 [(0, 20), (1, 100), (2, 0), (3, 0), (4, 0)] [0, 100, 0] _)
      refine su_aload_n hC 100 dX10_spreads_81 rfl (by decide) (by decide) (?_ : SdS X 82 [(0, 20), (1, 100), (2, 0), (3, 0), (4, 0)] [100, 0, 100, 0] _)
      refine su_bipush hC dX10_spreads_82 (by decide) (?_ : SdS X 84 [(0, 20), (1, 100), (2, 0), (3, 0), (4, 0)] [0, 100, 0, 100, 0] _)
      refine su_iload_n hC dX10_spreads_84 rfl (by decide) (?_ : SdS X 85 [(0, 20), (1, 100), (2, 0), (3, 0), (4, 0)] [0, 0, 100, 0, 100, 0] _)
      refine su_imul hC dX10_spreads_85 (?_ : SdS X 86 [(0, 20), (1, 100), (2, 0), (3, 0), (4, 0)] [0, 100, 0, 100, 0] _)
      refine su_iload hC dX10_spreads_86 (by decide) (?_ : SdS X 88 [(0, 20), (1, 100), (2, 0), (3, 0), (4, 0)] [0, 0, 100, 0, 100, 0] _)
      refine su_bipush hC dX10_spreads_88 (by decide) (?_ : SdS X 90 [(0, 20), (1, 100), (2, 0), (3, 0), (4, 0)] [0, 0, 0, 100, 0, 100, 0] _)
      refine su_iadd hC dX10_spreads_90 (?_ : SdS X 91 [(0, 20), (1, 100), (2, 0), (3, 0), (4, 0)] [0, 0, 100, 0, 100, 0] _)
      refine su_iconst hC dX10_spreads_91 ⟨by decide, by decide⟩ (?_ : SdS X 92 [(0, 20), (1, 100), (2, 0), (3, 0), (4, 0)] [0, 0, 0, 100, 0, 100, 0] _)
      refine su_isub hC dX10_spreads_92 (?_ : SdS X 93 [(0, 20), (1, 100), (2, 0), (3, 0), (4, 0)] [0, 0, 100, 0, 100, 0] _)
      refine su_bipush hC dX10_spreads_93 (by decide) (?_ : SdS X 95 [(0, 20), (1, 100), (2, 0), (3, 0), (4, 0)] [0, 0, 0, 100, 0, 100, 0] _)
      refine su_irem hC dX10_spreads_95 (?_ : SdS X 96 [(0, 20), (1, 100), (2, 0), (3, 0), (4, 0)] [0, 0, 100, 0, 100, 0] _)
      refine su_iadd hC dX10_spreads_96 (?_ : SdS X 97 [(0, 20), (1, 100), (2, 0), (3, 0), (4, 0)] [0, 100, 0, 100, 0] _)
      refine su_iaload hC dX10_spreads_97 (?_ : SdS X 98 [(0, 20), (1, 100), (2, 0), (3, 0), (4, 0)] [0, 0, 100, 0] _)
      refine su_iconst hC dX10_spreads_98 ⟨by decide, by decide⟩ (?_ : SdS X 99 [(0, 20), (1, 100), (2, 0), (3, 0), (4, 0)] [0, 0, 0, 100, 0] _)
      refine su_iadd hC dX10_spreads_99 (?_ : SdS X 100 [(0, 20), (1, 100), (2, 0), (3, 0), (4, 0)] [0, 0, 100, 0] _)
      refine su_invs (τ := [0]) (τs := [100, 0, 0]) hC false "" WG (M_X10_lowers _) rfl rfl rfl rfl wl_8_163 wl_8_164 wl_1_10 wl_8_165 hd_X10_lowers (by rw [e3]; decide) (by decide) dX10_spreads_100 (?_ : SdS X 103 [(0, 20), (1, 100), (2, 0), (3, 0), (4, 0)] [0, 0] _)
      refine su_ior hC dX10_spreads_103 (?_ : SdS X 104 [(0, 20), (1, 100), (2, 0), (3, 0), (4, 0)] [0] _)
      refine su_istore_n (Γ' := [(0, 20), (1, 100), (2, 0), (3, 0), (4, 0)]) hC dX10_spreads_104 rfl (by rw [e2]; decide) (by decide) (?_ : SdS X 105 [(0, 20), (1, 100), (2, 0), (3, 0), (4, 0)] [] _)
      refine su_iinc (Γ' := [(0, 20), (1, 100), (2, 0), (3, 0), (4, 0)]) hC dX10_spreads_105 (by decide) (by rw [e2]; decide) (by decide) (?_ : SdS X 108 [(0, 20), (1, 100), (2, 0), (3, 0), (4, 0)] [] _)
      refine su_goto (tgt := 35) hC dX10_spreads_108 rfl (?_ : SdS X 35 [(0, 20), (1, 100), (2, 0), (3, 0), (4, 0)] [] _)
      exact SdS.weak (by decide) h35
  have S_10 : ∀ (k2 : xK), SdS X 2 [(0, 20), (1, 100), (2, 0)] [] k2 → SdS X 10 [(0, 20), (1, 100), (2, 0), (3, 0)] [] (L_X10_spreads_10 Q k2) := by
    intro k2 h2
    unfold L_X10_spreads_10
    refine SdS.loop (fun k10 h10 => ?_)
    refine su_iload_n hC dX10_spreads_10 rfl (by decide) (?_ : SdS X 11 [(0, 20), (1, 100), (2, 0), (3, 0)] [0] _)
    refine su_aload_n hC 20 dX10_spreads_11 rfl (by decide) (by decide) (?_ : SdS X 12 [(0, 20), (1, 100), (2, 0), (3, 0)] [20, 0] _)
    refine su_getR hC (ci := 10) (j := 3) (C := RX10) (T := TX10) (N := 45) rfl rfl (by decide) in_X10 wl_5_167 rfl dX10_spreads_12 (?_ : SdS X 15 [(0, 20), (1, 100), (2, 0), (3, 0)] [19, 0] _)
    refine su_getFN hC (ci := 9) (j := 0) (C := RX9) (T := TX9) (N := 28) (host := "NarrowRingsModel") rfl rfl (by decide) in_X9 (by decide) rfl dX10_spreads_15 (?_ : SdS X 18 [(0, 20), (1, 100), (2, 0), (3, 0)] [0, 0] _)
    refine su_icmp_ge (tgt := 117) hC dX10_spreads_18 rfl (?_ : SdS X 117 [(0, 20), (1, 100), (2, 0), (3, 0)] [] _) (?_ : SdS X 21 [(0, 20), (1, 100), (2, 0), (3, 0)] [] _)
    · refine su_iconst hC dX10_spreads_117 ⟨by decide, by decide⟩ (?_ : SdS X 118 [(0, 20), (1, 100), (2, 0), (3, 0)] [0] _)
      refine su_istore_n (Γ' := [(0, 20), (1, 100), (2, 0), (3, 0)]) hC dX10_spreads_118 rfl (by rw [e2]; decide) (by decide) (?_ : SdS X 119 [(0, 20), (1, 100), (2, 0), (3, 0)] [] _)
      exact SdS.weak (by decide) (S_119 k2 h2)
    · refine su_aload_n hC 20 dX10_spreads_21 rfl (by decide) (by decide) (?_ : SdS X 22 [(0, 20), (1, 100), (2, 0), (3, 0)] [20] _)
      refine su_iload_n hC dX10_spreads_22 rfl (by decide) (?_ : SdS X 23 [(0, 20), (1, 100), (2, 0), (3, 0)] [0, 20] _)
      refine su_inv0 (τ := []) (τr := [0]) (ci := 10) (q := (RX10, TX10, 45)) hC WG (M_X10_fitsRing _) rfl rfl rfl rfl  rfl rfl wl_7_118 wl_7_120 wp_93 wl_1_10 wl_7_121 hd_X10_fitsRing (by rw [e3]; decide) (by decide) dX10_spreads_23 (?_ : SdS X 26 [(0, 20), (1, 100), (2, 0), (3, 0)] [0] _)
      refine su_if_ne (tgt := 32) hC dX10_spreads_26 rfl (?_ : SdS X 32 [(0, 20), (1, 100), (2, 0), (3, 0)] [] _) (?_ : SdS X 29 [(0, 20), (1, 100), (2, 0), (3, 0)] [] _)
      · refine su_iconst hC dX10_spreads_32 ⟨by decide, by decide⟩ (?_ : SdS X 33 [(0, 20), (1, 100), (2, 0), (3, 0)] [0] _)
        refine su_istore (Γ' := [(0, 20), (1, 100), (2, 0), (3, 0), (4, 0)]) hC dX10_spreads_33 (by rw [e2]; decide) (by decide) (?_ : SdS X 35 [(0, 20), (1, 100), (2, 0), (3, 0), (4, 0)] [] _)
        exact SdS.weak (by decide) (S_35 k2 h2 k10 h10)
      · refine su_goto (tgt := 111) hC dX10_spreads_29 rfl (?_ : SdS X 111 [(0, 20), (1, 100), (2, 0), (3, 0)] [] _)
        exact SdS.weak (by decide) (S_111 k2 h2 k10 h10)
  have S_2 : SdS X 2 [(0, 20), (1, 100), (2, 0)] [] (L_X10_spreads_2 Q) := by
    unfold L_X10_spreads_2
    refine SdS.loop (fun k2 h2 => ?_)
    refine su_iload_n hC dX10_spreads_2 rfl (by decide) (?_ : SdS X 3 [(0, 20), (1, 100), (2, 0)] [0] _)
    refine su_if_eq (tgt := 209) hC dX10_spreads_3 rfl (?_ : SdS X 209 [(0, 20), (1, 100), (2, 0)] [] _) (?_ : SdS X 6 [(0, 20), (1, 100), (2, 0)] [] _)
    · exact su_return hC hT dX10_spreads_209
    · refine su_iconst hC dX10_spreads_6 ⟨by decide, by decide⟩ (?_ : SdS X 7 [(0, 20), (1, 100), (2, 0)] [0] _)
      refine su_istore_n (Γ' := [(0, 20), (1, 100), (2, 0)]) hC dX10_spreads_7 rfl (by rw [e2]; decide) (by decide) (?_ : SdS X 8 [(0, 20), (1, 100), (2, 0)] [] _)
      refine su_iconst hC dX10_spreads_8 ⟨by decide, by decide⟩ (?_ : SdS X 9 [(0, 20), (1, 100), (2, 0)] [0] _)
      refine su_istore_n (Γ' := [(0, 20), (1, 100), (2, 0), (3, 0)]) hC dX10_spreads_9 rfl (by rw [e2]; decide) (by decide) (?_ : SdS X 10 [(0, 20), (1, 100), (2, 0), (3, 0)] [] _)
      exact SdS.weak (by decide) (S_10 k2 h2)
  refine (?_ : SdS X 0 [(0, 20), (1, 100)] [] (E_X10_spreads Q))
  unfold E_X10_spreads
  refine su_iconst hC dX10_spreads_0 ⟨by decide, by decide⟩ (?_ : SdS X 1 [(0, 20), (1, 100)] [0] _)
  refine su_istore_n (Γ' := [(0, 20), (1, 100), (2, 0)]) hC dX10_spreads_1 rfl (by rw [e2]; decide) (by decide) (?_ : SdS X 2 [(0, 20), (1, 100), (2, 0)] [] _)
  exact SdS.weak (by decide) (S_2)
theorem hd_X10_stand : yX10_stand.cls ≠ "java/lang/invoke/MethodHandle" ∧ yX10_stand.cls ≠ "java/lang/invoke/VarHandle" ∧ (parseMethodDescriptor yX10_stand.desc).map (fun d => d.parameters.length) = some 0 := by decide +kernel
set_option maxRecDepth 100000 in
set_option maxHeartbeats 4000000 in
theorem M_X10_stand (l : Launch) : MtS l yX10_stand (Cond.code yX10_stand cX10_stand 3 (some .int) :: WALL) { frames := 1, cells := 0, slots := 0, locals := 24 } [20] (some 0) T_X10_stand := by
  refine MtS.mk (B := E_X10_stand) (by decide +kernel) (by decide) (fun _ _ _ hh => hh) ?_
  intro X Q e1 e2 e3 hC hN hT
  subst e1
  have hC : CF X cX10_stand RX10 WALL := hC
  have S_48 : ∀ (k22 : xK), SdS X 22 [(0, 20), (1, 0), (2, 0)] [] k22 → SdS X 48 [(0, 20), (1, 0), (2, 0)] [] (B_X10_stand_48 Q k22) := by
    intro k22 h22
    unfold B_X10_stand_48
    refine su_iinc (Γ' := [(0, 20), (1, 0), (2, 0)]) hC dX10_stand_48 (by decide) (by rw [e2]; decide) (by decide) (?_ : SdS X 51 [(0, 20), (1, 0), (2, 0)] [] _)
    refine su_goto (tgt := 22) hC dX10_stand_51 rfl (?_ : SdS X 22 [(0, 20), (1, 0), (2, 0)] [] _)
    exact SdS.weak (by decide) h22
  have S_22 : SdS X 22 [(0, 20), (1, 0), (2, 0)] [] (L_X10_stand_22 Q) := by
    unfold L_X10_stand_22
    refine SdS.loop (fun k22 h22 => ?_)
    refine su_iload_n hC dX10_stand_22 rfl (by decide) (?_ : SdS X 23 [(0, 20), (1, 0), (2, 0)] [0] _)
    refine su_aload_n hC 20 dX10_stand_23 rfl (by decide) (by decide) (?_ : SdS X 24 [(0, 20), (1, 0), (2, 0)] [20, 0] _)
    refine su_getR hC (ci := 10) (j := 3) (C := RX10) (T := TX10) (N := 45) rfl rfl (by decide) in_X10 wl_5_167 rfl dX10_stand_24 (?_ : SdS X 27 [(0, 20), (1, 0), (2, 0)] [19, 0] _)
    refine su_getFN hC (ci := 9) (j := 0) (C := RX9) (T := TX9) (N := 28) (host := "NarrowRingsModel") rfl rfl (by decide) in_X9 (by decide) rfl dX10_stand_27 (?_ : SdS X 30 [(0, 20), (1, 0), (2, 0)] [0, 0] _)
    refine su_icmp_ge (tgt := 54) hC dX10_stand_30 rfl (?_ : SdS X 54 [(0, 20), (1, 0), (2, 0)] [] _) (?_ : SdS X 33 [(0, 20), (1, 0), (2, 0)] [] _)
    · refine su_aload_n hC 20 dX10_stand_54 rfl (by decide) (by decide) (?_ : SdS X 55 [(0, 20), (1, 0), (2, 0)] [20] _)
      refine su_iload_n hC dX10_stand_55 rfl (by decide) (?_ : SdS X 56 [(0, 20), (1, 0), (2, 0)] [0, 20] _)
      refine su_inv0 (τ := []) (τr := [0]) (ci := 10) (q := (RX10, TX10, 45)) hC WG (M_X10_good _) rfl rfl rfl rfl  rfl rfl wl_7_171 wl_7_173 wp_105 wl_1_10 wl_7_174 hd_X10_good (by rw [e3]; decide) (by decide) dX10_stand_56 (?_ : SdS X 59 [(0, 20), (1, 0), (2, 0)] [0] _)
      exact su_ireturn hC hT dX10_stand_59
    · refine su_aload_n hC 20 dX10_stand_33 rfl (by decide) (by decide) (?_ : SdS X 34 [(0, 20), (1, 0), (2, 0)] [20] _)
      refine su_iload_n hC dX10_stand_34 rfl (by decide) (?_ : SdS X 35 [(0, 20), (1, 0), (2, 0)] [0, 20] _)
      refine su_inv0 (τ := []) (τr := [0]) (ci := 10) (q := (RX10, TX10, 45)) hC WG (M_X10_holds _) rfl rfl rfl rfl  rfl rfl wl_8_146 wl_8_148 wp_128 wl_1_10 wl_8_149 hd_X10_holds (by rw [e3]; decide) (by decide) dX10_stand_35 (?_ : SdS X 38 [(0, 20), (1, 0), (2, 0)] [0] _)
      refine su_aload_n hC 20 dX10_stand_38 rfl (by decide) (by decide) (?_ : SdS X 39 [(0, 20), (1, 0), (2, 0)] [20, 0] _)
      refine su_iload_n hC dX10_stand_39 rfl (by decide) (?_ : SdS X 40 [(0, 20), (1, 0), (2, 0)] [0, 20, 0] _)
      refine su_inv0 (τ := [0]) (τr := [0]) (ci := 10) (q := (RX10, TX10, 45)) hC WG (M_X10_holds _) rfl rfl rfl rfl  rfl rfl wl_8_146 wl_8_148 wp_128 wl_1_10 wl_8_149 hd_X10_holds (by rw [e3]; decide) (by decide) dX10_stand_40 (?_ : SdS X 43 [(0, 20), (1, 0), (2, 0)] [0, 0] _)
      refine su_icmp_lt (tgt := 48) hC dX10_stand_43 rfl (?_ : SdS X 48 [(0, 20), (1, 0), (2, 0)] [] _) (?_ : SdS X 46 [(0, 20), (1, 0), (2, 0)] [] _)
      · exact SdS.weak (by decide) (S_48 k22 h22)
      · refine su_iload_n hC dX10_stand_46 rfl (by decide) (?_ : SdS X 47 [(0, 20), (1, 0), (2, 0)] [0] _)
        refine su_istore_n (Γ' := [(0, 20), (1, 0), (2, 0)]) hC dX10_stand_47 rfl (by rw [e2]; decide) (by decide) (?_ : SdS X 48 [(0, 20), (1, 0), (2, 0)] [] _)
        exact SdS.weak (by decide) (S_48 k22 h22)
  refine (?_ : SdS X 0 [(0, 20)] [] (E_X10_stand Q))
  unfold E_X10_stand
  refine su_aload_n hC 20 dX10_stand_0 rfl (by decide) (by decide) (?_ : SdS X 1 [(0, 20)] [20] _)
  refine su_iconst hC dX10_stand_1 ⟨by decide, by decide⟩ (?_ : SdS X 2 [(0, 20)] [0, 20] _)
  refine su_putF hC (ci := 10) (j := 0) (C := RX10) (T := TX10) (N := 45) tyX10 tyX10_ok nmX10 rfl rfl (by decide) in_X10 rfl rfl wl_5_164 rfl dX10_stand_2 (?_ : SdS X 5 [(0, 20)] [] _)
  refine su_aload_n hC 20 dX10_stand_5 rfl (by decide) (by decide) (?_ : SdS X 6 [(0, 20)] [20] _)
  refine su_getR hC (ci := 10) (j := 3) (C := RX10) (T := TX10) (N := 45) rfl rfl (by decide) in_X10 wl_5_167 rfl dX10_stand_6 (?_ : SdS X 9 [(0, 20)] [19] _)
  refine su_ifnonnull (tgt := 18) hC (by decide) dX10_stand_9 rfl (?_ : SdS X 18 [(0, 20)] [] _) (?_ : SdS X 12 [(0, 20)] [] _)
  · refine su_iconst hC dX10_stand_18 ⟨by decide, by decide⟩ (?_ : SdS X 19 [(0, 20)] [0] _)
    refine su_istore_n (Γ' := [(0, 20), (1, 0)]) hC dX10_stand_19 rfl (by rw [e2]; decide) (by decide) (?_ : SdS X 20 [(0, 20), (1, 0)] [] _)
    refine su_iconst hC dX10_stand_20 ⟨by decide, by decide⟩ (?_ : SdS X 21 [(0, 20), (1, 0)] [0] _)
    refine su_istore_n (Γ' := [(0, 20), (1, 0), (2, 0)]) hC dX10_stand_21 rfl (by rw [e2]; decide) (by decide) (?_ : SdS X 22 [(0, 20), (1, 0), (2, 0)] [] _)
    exact SdS.weak (by decide) (S_22)
  · refine su_aload_n hC 20 dX10_stand_12 rfl (by decide) (by decide) (?_ : SdS X 13 [(0, 20)] [20] _)
    refine su_iconst hC dX10_stand_13 ⟨by decide, by decide⟩ (?_ : SdS X 14 [(0, 20)] [0, 20] _)
    refine su_inv0 (τ := []) (τr := [0]) (ci := 10) (q := (RX10, TX10, 45)) hC WG (M_X10_refused _) rfl rfl rfl rfl  rfl rfl wl_6_72 wl_6_74 wp_63 wl_1_10 wl_6_75 hd_X10_refused (by rw [e3]; decide) (by decide) dX10_stand_14 (?_ : SdS X 17 [(0, 20)] [0] _)
    exact su_ireturn hC hT dX10_stand_17
theorem wl_8_159 : Cond.methodLink RX10 528 yX10_spreads ∈ WALL := tb8 (List.mem_of_getElem? (i := 159) rfl) rfl
theorem wl_8_161 : Cond.instanceMethod yX10_spreads ∈ WALL := tb8 (List.mem_of_getElem? (i := 161) rfl) rfl
theorem wp_129 : Cond.selects RX10 yX10_spreads yX10_spreads ∈ WALL := tbS (List.mem_of_getElem? (i := 129) rfl)
theorem wl_8_162 : Cond.code yX10_spreads cX10_spreads 5 none ∈ WALL := tb8 (List.mem_of_getElem? (i := 162) rfl) rfl
theorem wl_8_158 : Cond.constant RX10 527 (Int32.ofInt 1048576) ∈ WALL := tb8 (List.mem_of_getElem? (i := 158) rfl) rfl
theorem hd_X10_theft : yX10_theft.cls ≠ "java/lang/invoke/MethodHandle" ∧ yX10_theft.cls ≠ "java/lang/invoke/VarHandle" ∧ (parseMethodDescriptor yX10_theft.desc).map (fun d => d.parameters.length) = some 5 := by decide +kernel
set_option maxRecDepth 100000 in
set_option maxHeartbeats 4000000 in
theorem M_X10_theft (l : Launch) : MtS l yX10_theft (Cond.code yX10_theft cX10_theft 11 (some .int) :: WALL) { frames := 5, cells := 0, slots := 0, locals := 114 } [20, 0, 0, 0, 0, 0] (some 0) T_X10_theft := by
  refine MtS.mk (B := E_X10_theft) (by decide +kernel) (by decide) (fun _ _ _ hh => hh) ?_
  intro X Q e1 e2 e3 hC hN hT
  subst e1
  have hC : CF X cX10_theft RX10 WALL := hC
  have S_31 : SdS X 31 [(0, 20), (1, 0), (2, 0), (3, 0), (4, 0), (5, 0)] [] (B_X10_theft_31 Q) := by
    unfold B_X10_theft_31
    refine su_aload_n hC 20 dX10_theft_31 rfl (by decide) (by decide) (?_ : SdS X 32 [(0, 20), (1, 0), (2, 0), (3, 0), (4, 0), (5, 0)] [20] _)
    refine su_iconst hC dX10_theft_32 ⟨by decide, by decide⟩ (?_ : SdS X 33 [(0, 20), (1, 0), (2, 0), (3, 0), (4, 0), (5, 0)] [0, 20] _)
    refine su_inv0 (τ := []) (τr := [0]) (ci := 10) (q := (RX10, TX10, 45)) hC WG (M_X10_refused _) rfl rfl rfl rfl  rfl rfl wl_6_72 wl_6_74 wp_63 wl_1_10 wl_6_75 hd_X10_refused (by rw [e3]; decide) (by decide) dX10_theft_33 (?_ : SdS X 36 [(0, 20), (1, 0), (2, 0), (3, 0), (4, 0), (5, 0)] [0] _)
    exact su_ireturn hC hT dX10_theft_36
  have S_308 : ∀ (k186 : xK), SdS X 186 [(0, 20), (1, 0), (2, 0), (3, 0), (4, 0), (5, 0), (6, 0), (7, 0)] [] k186 → SdS X 308 [(0, 20), (1, 0), (2, 0), (3, 0), (4, 0), (5, 0), (6, 0), (7, 0)] [] (B_X10_theft_308 Q k186) := by
    intro k186 h186
    unfold B_X10_theft_308
    refine su_iinc (Γ' := [(0, 20), (1, 0), (2, 0), (3, 0), (4, 0), (5, 0), (6, 0), (7, 0)]) hC dX10_theft_308 (by decide) (by rw [e2]; decide) (by decide) (?_ : SdS X 311 [(0, 20), (1, 0), (2, 0), (3, 0), (4, 0), (5, 0), (6, 0), (7, 0)] [] _)
    refine su_goto (tgt := 186) hC dX10_theft_311 rfl (?_ : SdS X 186 [(0, 20), (1, 0), (2, 0), (3, 0), (4, 0), (5, 0), (6, 0), (7, 0)] [] _)
    exact SdS.weak (by decide) h186
  have S_305 : ∀ (k186 : xK), SdS X 186 [(0, 20), (1, 0), (2, 0), (3, 0), (4, 0), (5, 0), (6, 0), (7, 0)] [] k186 → SdS X 305 [(0, 20), (1, 0), (2, 0), (3, 0), (4, 0), (5, 0), (6, 0), (7, 0), (8, 0), (9, 0), (10, 0)] [0, 0] (B_X10_theft_305 Q k186) := by
    intro k186 h186
    unfold B_X10_theft_305
    refine su_ior hC dX10_theft_305 (?_ : SdS X 306 [(0, 20), (1, 0), (2, 0), (3, 0), (4, 0), (5, 0), (6, 0), (7, 0), (8, 0), (9, 0), (10, 0)] [0] _)
    refine su_istore (Γ' := [(0, 20), (1, 0), (2, 0), (3, 0), (4, 0), (5, 0), (6, 0), (7, 0), (8, 0), (9, 0), (10, 0)]) hC dX10_theft_306 (by rw [e2]; decide) (by decide) (?_ : SdS X 308 [(0, 20), (1, 0), (2, 0), (3, 0), (4, 0), (5, 0), (6, 0), (7, 0), (8, 0), (9, 0), (10, 0)] [] _)
    exact SdS.weak (by decide) (S_308 k186 h186)
  have S_297 : ∀ (k186 : xK), SdS X 186 [(0, 20), (1, 0), (2, 0), (3, 0), (4, 0), (5, 0), (6, 0), (7, 0)] [] k186 → SdS X 297 [(0, 20), (1, 0), (2, 0), (3, 0), (4, 0), (5, 0), (6, 0), (7, 0), (8, 0), (9, 0), (10, 0)] [0] (B_X10_theft_297 Q k186) := by
    intro k186 h186
    unfold B_X10_theft_297
    refine su_iconst hC dX10_theft_297 ⟨by decide, by decide⟩ (?_ : SdS X 298 [(0, 20), (1, 0), (2, 0), (3, 0), (4, 0), (5, 0), (6, 0), (7, 0), (8, 0), (9, 0), (10, 0)] [0, 0] _)
    refine su_iload hC dX10_theft_298 (by decide) (?_ : SdS X 300 [(0, 20), (1, 0), (2, 0), (3, 0), (4, 0), (5, 0), (6, 0), (7, 0), (8, 0), (9, 0), (10, 0)] [0, 0, 0] _)
    refine su_ishl hC dX10_theft_300 (?_ : SdS X 301 [(0, 20), (1, 0), (2, 0), (3, 0), (4, 0), (5, 0), (6, 0), (7, 0), (8, 0), (9, 0), (10, 0)] [0, 0] _)
    refine su_goto (tgt := 305) hC dX10_theft_301 rfl (?_ : SdS X 305 [(0, 20), (1, 0), (2, 0), (3, 0), (4, 0), (5, 0), (6, 0), (7, 0), (8, 0), (9, 0), (10, 0)] [0, 0] _)
    exact SdS.weak (by decide) (S_305 k186 h186)
  have S_186 : SdS X 186 [(0, 20), (1, 0), (2, 0), (3, 0), (4, 0), (5, 0), (6, 0), (7, 0)] [] (L_X10_theft_186 Q) := by
    unfold L_X10_theft_186
    refine SdS.loop (fun k186 h186 => ?_)
    refine su_iload hC dX10_theft_186 (by decide) (?_ : SdS X 188 [(0, 20), (1, 0), (2, 0), (3, 0), (4, 0), (5, 0), (6, 0), (7, 0)] [0] _)
    refine su_aload_n hC 20 dX10_theft_188 rfl (by decide) (by decide) (?_ : SdS X 189 [(0, 20), (1, 0), (2, 0), (3, 0), (4, 0), (5, 0), (6, 0), (7, 0)] [20, 0] _)
    refine su_getF hC (ci := 10) (j := 17) (C := RX10) (T := TX10) (N := 45) rfl rfl (by decide) in_X10 wl_5_181 rfl dX10_theft_189 (?_ : SdS X 192 [(0, 20), (1, 0), (2, 0), (3, 0), (4, 0), (5, 0), (6, 0), (7, 0)] [0, 0] _)
    refine su_icmp_ge (tgt := 314) hC dX10_theft_192 rfl (?_ : SdS X 314 [(0, 20), (1, 0), (2, 0), (3, 0), (4, 0), (5, 0), (6, 0), (7, 0)] [] _) (?_ : SdS X 195 [(0, 20), (1, 0), (2, 0), (3, 0), (4, 0), (5, 0), (6, 0), (7, 0)] [] _)
    · refine su_aload_n hC 20 dX10_theft_314 rfl (by decide) (by decide) (?_ : SdS X 315 [(0, 20), (1, 0), (2, 0), (3, 0), (4, 0), (5, 0), (6, 0), (7, 0)] [20] _)
      refine su_iload hC dX10_theft_315 (by decide) (?_ : SdS X 317 [(0, 20), (1, 0), (2, 0), (3, 0), (4, 0), (5, 0), (6, 0), (7, 0)] [0, 20] _)
      refine su_inv0 (τ := []) (τr := [0]) (ci := 10) (q := (RX10, TX10, 45)) hC WG (M_X10_good _) rfl rfl rfl rfl  rfl rfl wl_7_171 wl_7_173 wp_105 wl_1_10 wl_7_174 hd_X10_good (by rw [e3]; decide) (by decide) dX10_theft_317 (?_ : SdS X 320 [(0, 20), (1, 0), (2, 0), (3, 0), (4, 0), (5, 0), (6, 0), (7, 0)] [0] _)
      exact su_ireturn hC hT dX10_theft_320
    · refine su_aload_n hC 20 dX10_theft_195 rfl (by decide) (by decide) (?_ : SdS X 196 [(0, 20), (1, 0), (2, 0), (3, 0), (4, 0), (5, 0), (6, 0), (7, 0)] [20] _)
      refine su_iload hC dX10_theft_196 (by decide) (?_ : SdS X 198 [(0, 20), (1, 0), (2, 0), (3, 0), (4, 0), (5, 0), (6, 0), (7, 0)] [0, 20] _)
      refine su_inv0 (τ := []) (τr := [0]) (ci := 10) (q := (RX10, TX10, 45)) hC WG (M_X10_goesThrough _) rfl rfl rfl rfl  rfl rfl wl_7_135 wl_7_137 wp_97 wl_1_10 wl_7_138 hd_X10_goesThrough (by rw [e3]; decide) (by decide) dX10_theft_198 (?_ : SdS X 201 [(0, 20), (1, 0), (2, 0), (3, 0), (4, 0), (5, 0), (6, 0), (7, 0)] [0] _)
      refine su_if_ne (tgt := 207) hC dX10_theft_201 rfl (?_ : SdS X 207 [(0, 20), (1, 0), (2, 0), (3, 0), (4, 0), (5, 0), (6, 0), (7, 0)] [] _) (?_ : SdS X 204 [(0, 20), (1, 0), (2, 0), (3, 0), (4, 0), (5, 0), (6, 0), (7, 0)] [] _)
      · refine su_bipush hC dX10_theft_207 (by decide) (?_ : SdS X 209 [(0, 20), (1, 0), (2, 0), (3, 0), (4, 0), (5, 0), (6, 0), (7, 0)] [0] _)
        refine su_aload_n hC 20 dX10_theft_209 rfl (by decide) (by decide) (?_ : SdS X 210 [(0, 20), (1, 0), (2, 0), (3, 0), (4, 0), (5, 0), (6, 0), (7, 0)] [20, 0] _)
        refine su_iload hC dX10_theft_210 (by decide) (?_ : SdS X 212 [(0, 20), (1, 0), (2, 0), (3, 0), (4, 0), (5, 0), (6, 0), (7, 0)] [0, 20, 0] _)
        refine su_iconst hC dX10_theft_212 ⟨by decide, by decide⟩ (?_ : SdS X 213 [(0, 20), (1, 0), (2, 0), (3, 0), (4, 0), (5, 0), (6, 0), (7, 0)] [0, 0, 20, 0] _)
        refine su_inv0 (τ := [0]) (τr := [0, 0]) (ci := 10) (q := (RX10, TX10, 45)) hC WG (M_X10_of _) rfl rfl rfl rfl  rfl rfl wl_7_131 wl_7_133 wp_96 wl_1_10 wl_7_134 hd_X10_of (by rw [e3]; decide) (by decide) dX10_theft_213 (?_ : SdS X 216 [(0, 20), (1, 0), (2, 0), (3, 0), (4, 0), (5, 0), (6, 0), (7, 0)] [0, 0] _)
        refine su_imul hC dX10_theft_216 (?_ : SdS X 217 [(0, 20), (1, 0), (2, 0), (3, 0), (4, 0), (5, 0), (6, 0), (7, 0)] [0] _)
        refine su_aload_n hC 20 dX10_theft_217 rfl (by decide) (by decide) (?_ : SdS X 218 [(0, 20), (1, 0), (2, 0), (3, 0), (4, 0), (5, 0), (6, 0), (7, 0)] [20, 0] _)
        refine su_iload hC dX10_theft_218 (by decide) (?_ : SdS X 220 [(0, 20), (1, 0), (2, 0), (3, 0), (4, 0), (5, 0), (6, 0), (7, 0)] [0, 20, 0] _)
        refine su_iconst hC dX10_theft_220 ⟨by decide, by decide⟩ (?_ : SdS X 221 [(0, 20), (1, 0), (2, 0), (3, 0), (4, 0), (5, 0), (6, 0), (7, 0)] [0, 0, 20, 0] _)
        refine su_inv0 (τ := [0]) (τr := [0, 0]) (ci := 10) (q := (RX10, TX10, 45)) hC WG (M_X10_of _) rfl rfl rfl rfl  rfl rfl wl_7_131 wl_7_133 wp_96 wl_1_10 wl_7_134 hd_X10_of (by rw [e3]; decide) (by decide) dX10_theft_221 (?_ : SdS X 224 [(0, 20), (1, 0), (2, 0), (3, 0), (4, 0), (5, 0), (6, 0), (7, 0)] [0, 0] _)
        refine su_iadd hC dX10_theft_224 (?_ : SdS X 225 [(0, 20), (1, 0), (2, 0), (3, 0), (4, 0), (5, 0), (6, 0), (7, 0)] [0] _)
        refine su_istore (Γ' := [(0, 20), (1, 0), (2, 0), (3, 0), (4, 0), (5, 0), (6, 0), (7, 0), (8, 0)]) hC dX10_theft_225 (by rw [e2]; decide) (by decide) (?_ : SdS X 227 [(0, 20), (1, 0), (2, 0), (3, 0), (4, 0), (5, 0), (6, 0), (7, 0), (8, 0)] [] _)
        refine su_aload_n hC 20 dX10_theft_227 rfl (by decide) (by decide) (?_ : SdS X 228 [(0, 20), (1, 0), (2, 0), (3, 0), (4, 0), (5, 0), (6, 0), (7, 0), (8, 0)] [20] _)
        refine su_getR hC (ci := 10) (j := 40) (C := RX10) (T := TX10) (N := 45) rfl rfl (by decide) in_X10 wl_5_204 rfl dX10_theft_228 (?_ : SdS X 231 [(0, 20), (1, 0), (2, 0), (3, 0), (4, 0), (5, 0), (6, 0), (7, 0), (8, 0)] [100] _)
        refine su_iload hC dX10_theft_231 (by decide) (?_ : SdS X 233 [(0, 20), (1, 0), (2, 0), (3, 0), (4, 0), (5, 0), (6, 0), (7, 0), (8, 0)] [0, 100] _)
        refine su_iaload hC dX10_theft_233 (?_ : SdS X 234 [(0, 20), (1, 0), (2, 0), (3, 0), (4, 0), (5, 0), (6, 0), (7, 0), (8, 0)] [0] _)
        refine su_aload_n hC 20 dX10_theft_234 rfl (by decide) (by decide) (?_ : SdS X 235 [(0, 20), (1, 0), (2, 0), (3, 0), (4, 0), (5, 0), (6, 0), (7, 0), (8, 0)] [20, 0] _)
        refine su_iload hC dX10_theft_235 (by decide) (?_ : SdS X 237 [(0, 20), (1, 0), (2, 0), (3, 0), (4, 0), (5, 0), (6, 0), (7, 0), (8, 0)] [0, 20, 0] _)
        refine su_inv0 (τ := [0]) (τr := [0]) (ci := 10) (q := (RX10, TX10, 45)) hC WG (M_X10_hoursAt _) rfl rfl rfl rfl  rfl rfl wl_7_159 wl_7_161 wp_103 wl_1_10 wl_7_162 hd_X10_hoursAt (by rw [e3]; decide) (by decide) dX10_theft_237 (?_ : SdS X 240 [(0, 20), (1, 0), (2, 0), (3, 0), (4, 0), (5, 0), (6, 0), (7, 0), (8, 0)] [0, 0] _)
        refine su_iadd hC dX10_theft_240 (?_ : SdS X 241 [(0, 20), (1, 0), (2, 0), (3, 0), (4, 0), (5, 0), (6, 0), (7, 0), (8, 0)] [0] _)
        refine su_aload_n hC 20 dX10_theft_241 rfl (by decide) (by decide) (?_ : SdS X 242 [(0, 20), (1, 0), (2, 0), (3, 0), (4, 0), (5, 0), (6, 0), (7, 0), (8, 0)] [20, 0] _)
        refine su_getR hC (ci := 10) (j := 41) (C := RX10) (T := TX10) (N := 45) rfl rfl (by decide) in_X10 wl_5_205 rfl dX10_theft_242 (?_ : SdS X 245 [(0, 20), (1, 0), (2, 0), (3, 0), (4, 0), (5, 0), (6, 0), (7, 0), (8, 0)] [100, 0] _)
        refine su_iload hC dX10_theft_245 (by decide) (?_ : SdS X 247 [(0, 20), (1, 0), (2, 0), (3, 0), (4, 0), (5, 0), (6, 0), (7, 0), (8, 0)] [0, 100, 0] _)
        refine su_bipush hC dX10_theft_247 (by decide) (?_ : SdS X 249 [(0, 20), (1, 0), (2, 0), (3, 0), (4, 0), (5, 0), (6, 0), (7, 0), (8, 0)] [0, 0, 100, 0] _)
        refine su_iadd hC dX10_theft_249 (?_ : SdS X 250 [(0, 20), (1, 0), (2, 0), (3, 0), (4, 0), (5, 0), (6, 0), (7, 0), (8, 0)] [0, 100, 0] _)
        refine su_iaload hC dX10_theft_250 (?_ : SdS X 251 [(0, 20), (1, 0), (2, 0), (3, 0), (4, 0), (5, 0), (6, 0), (7, 0), (8, 0)] [0, 0] _)
        refine su_iadd hC dX10_theft_251 (?_ : SdS X 252 [(0, 20), (1, 0), (2, 0), (3, 0), (4, 0), (5, 0), (6, 0), (7, 0), (8, 0)] [0] _)
        refine su_istore (Γ' := [(0, 20), (1, 0), (2, 0), (3, 0), (4, 0), (5, 0), (6, 0), (7, 0), (8, 0), (9, 0)]) hC dX10_theft_252 (by rw [e2]; decide) (by decide) (?_ : SdS X 254 [(0, 20), (1, 0), (2, 0), (3, 0), (4, 0), (5, 0), (6, 0), (7, 0), (8, 0), (9, 0)] [] _)
        refine su_aload_n hC 20 dX10_theft_254 rfl (by decide) (by decide) (?_ : SdS X 255 [(0, 20), (1, 0), (2, 0), (3, 0), (4, 0), (5, 0), (6, 0), (7, 0), (8, 0), (9, 0)] [20] _)
        refine su_getR hC (ci := 10) (j := 40) (C := RX10) (T := TX10) (N := 45) rfl rfl (by decide) in_X10 wl_5_204 rfl dX10_theft_255 (?_ : SdS X 258 [(0, 20), (1, 0), (2, 0), (3, 0), (4, 0), (5, 0), (6, 0), (7, 0), (8, 0), (9, 0)] [100] _)
        refine su_iload hC dX10_theft_258 (by decide) (?_ : SdS X 260 [(0, 20), (1, 0), (2, 0), (3, 0), (4, 0), (5, 0), (6, 0), (7, 0), (8, 0), (9, 0)] [0, 100] _)
        refine su_bipush hC dX10_theft_260 (by decide) (?_ : SdS X 262 [(0, 20), (1, 0), (2, 0), (3, 0), (4, 0), (5, 0), (6, 0), (7, 0), (8, 0), (9, 0)] [0, 0, 100] _)
        refine su_iadd hC dX10_theft_262 (?_ : SdS X 263 [(0, 20), (1, 0), (2, 0), (3, 0), (4, 0), (5, 0), (6, 0), (7, 0), (8, 0), (9, 0)] [0, 100] _)
        refine su_iaload hC dX10_theft_263 (?_ : SdS X 264 [(0, 20), (1, 0), (2, 0), (3, 0), (4, 0), (5, 0), (6, 0), (7, 0), (8, 0), (9, 0)] [0] _)
        refine su_aload_n hC 20 dX10_theft_264 rfl (by decide) (by decide) (?_ : SdS X 265 [(0, 20), (1, 0), (2, 0), (3, 0), (4, 0), (5, 0), (6, 0), (7, 0), (8, 0), (9, 0)] [20, 0] _)
        refine su_iload hC dX10_theft_265 (by decide) (?_ : SdS X 267 [(0, 20), (1, 0), (2, 0), (3, 0), (4, 0), (5, 0), (6, 0), (7, 0), (8, 0), (9, 0)] [0, 20, 0] _)
        refine su_inv0 (τ := [0]) (τr := [0]) (ci := 10) (q := (RX10, TX10, 45)) hC WG (M_X10_hoursAt _) rfl rfl rfl rfl  rfl rfl wl_7_159 wl_7_161 wp_103 wl_1_10 wl_7_162 hd_X10_hoursAt (by rw [e3]; decide) (by decide) dX10_theft_267 (?_ : SdS X 270 [(0, 20), (1, 0), (2, 0), (3, 0), (4, 0), (5, 0), (6, 0), (7, 0), (8, 0), (9, 0)] [0, 0] _)
        refine su_iadd hC dX10_theft_270 (?_ : SdS X 271 [(0, 20), (1, 0), (2, 0), (3, 0), (4, 0), (5, 0), (6, 0), (7, 0), (8, 0), (9, 0)] [0] _)
        refine su_aload_n hC 20 dX10_theft_271 rfl (by decide) (by decide) (?_ : SdS X 272 [(0, 20), (1, 0), (2, 0), (3, 0), (4, 0), (5, 0), (6, 0), (7, 0), (8, 0), (9, 0)] [20, 0] _)
        refine su_getR hC (ci := 10) (j := 41) (C := RX10) (T := TX10) (N := 45) rfl rfl (by decide) in_X10 wl_5_205 rfl dX10_theft_272 (?_ : SdS X 275 [(0, 20), (1, 0), (2, 0), (3, 0), (4, 0), (5, 0), (6, 0), (7, 0), (8, 0), (9, 0)] [100, 0] _)
        refine su_iload hC dX10_theft_275 (by decide) (?_ : SdS X 277 [(0, 20), (1, 0), (2, 0), (3, 0), (4, 0), (5, 0), (6, 0), (7, 0), (8, 0), (9, 0)] [0, 100, 0] _)
        refine su_iaload hC dX10_theft_277 (?_ : SdS X 278 [(0, 20), (1, 0), (2, 0), (3, 0), (4, 0), (5, 0), (6, 0), (7, 0), (8, 0), (9, 0)] [0, 0] _)
        refine su_iadd hC dX10_theft_278 (?_ : SdS X 279 [(0, 20), (1, 0), (2, 0), (3, 0), (4, 0), (5, 0), (6, 0), (7, 0), (8, 0), (9, 0)] [0] _)
        refine su_istore (Γ' := [(0, 20), (1, 0), (2, 0), (3, 0), (4, 0), (5, 0), (6, 0), (7, 0), (8, 0), (9, 0), (10, 0)]) hC dX10_theft_279 (by rw [e2]; decide) (by decide) (?_ : SdS X 281 [(0, 20), (1, 0), (2, 0), (3, 0), (4, 0), (5, 0), (6, 0), (7, 0), (8, 0), (9, 0), (10, 0)] [] _)
        refine su_iload hC dX10_theft_281 (by decide) (?_ : SdS X 283 [(0, 20), (1, 0), (2, 0), (3, 0), (4, 0), (5, 0), (6, 0), (7, 0), (8, 0), (9, 0), (10, 0)] [0] _)
        refine su_iload hC dX10_theft_283 (by decide) (?_ : SdS X 285 [(0, 20), (1, 0), (2, 0), (3, 0), (4, 0), (5, 0), (6, 0), (7, 0), (8, 0), (9, 0), (10, 0)] [0, 0] _)
        refine su_iload hC dX10_theft_285 (by decide) (?_ : SdS X 287 [(0, 20), (1, 0), (2, 0), (3, 0), (4, 0), (5, 0), (6, 0), (7, 0), (8, 0), (9, 0), (10, 0)] [0, 0, 0] _)
        refine su_icmp_le (tgt := 297) hC dX10_theft_287 rfl (?_ : SdS X 297 [(0, 20), (1, 0), (2, 0), (3, 0), (4, 0), (5, 0), (6, 0), (7, 0), (8, 0), (9, 0), (10, 0)] [0] _) (?_ : SdS X 290 [(0, 20), (1, 0), (2, 0), (3, 0), (4, 0), (5, 0), (6, 0), (7, 0), (8, 0), (9, 0), (10, 0)] [0] _)
        · exact SdS.weak (by decide) (S_297 k186 h186)
        · refine su_iload hC dX10_theft_290 (by decide) (?_ : SdS X 292 [(0, 20), (1, 0), (2, 0), (3, 0), (4, 0), (5, 0), (6, 0), (7, 0), (8, 0), (9, 0), (10, 0)] [0, 0] _)
          refine su_iload hC dX10_theft_292 (by decide) (?_ : SdS X 294 [(0, 20), (1, 0), (2, 0), (3, 0), (4, 0), (5, 0), (6, 0), (7, 0), (8, 0), (9, 0), (10, 0)] [0, 0, 0] _)
          refine su_icmp_gt (tgt := 304) hC dX10_theft_294 rfl (?_ : SdS X 304 [(0, 20), (1, 0), (2, 0), (3, 0), (4, 0), (5, 0), (6, 0), (7, 0), (8, 0), (9, 0), (10, 0)] [0] _) (?_ : SdS X 297 [(0, 20), (1, 0), (2, 0), (3, 0), (4, 0), (5, 0), (6, 0), (7, 0), (8, 0), (9, 0), (10, 0)] [0] _)
          · refine su_iconst hC dX10_theft_304 ⟨by decide, by decide⟩ (?_ : SdS X 305 [(0, 20), (1, 0), (2, 0), (3, 0), (4, 0), (5, 0), (6, 0), (7, 0), (8, 0), (9, 0), (10, 0)] [0, 0] _)
            exact SdS.weak (by decide) (S_305 k186 h186)
          · exact SdS.weak (by decide) (S_297 k186 h186)
      · refine su_goto (tgt := 308) hC dX10_theft_204 rfl (?_ : SdS X 308 [(0, 20), (1, 0), (2, 0), (3, 0), (4, 0), (5, 0), (6, 0), (7, 0)] [] _)
        exact SdS.weak (by decide) (S_308 k186 h186)
  have S_157 : ∀ (k97 : xK), SdS X 97 [(0, 20), (1, 0), (2, 0), (3, 0), (4, 0), (5, 0), (6, 0)] [] k97 → SdS X 157 [(0, 20), (1, 0), (2, 0), (3, 0), (4, 0), (5, 0), (6, 0)] [0, 0, 100] (B_X10_theft_157 Q k97) := by
    intro k97 h97
    unfold B_X10_theft_157
    refine su_iastore hC dX10_theft_157 (?_ : SdS X 158 [(0, 20), (1, 0), (2, 0), (3, 0), (4, 0), (5, 0), (6, 0)] [] _)
    refine su_iinc (Γ' := [(0, 20), (1, 0), (2, 0), (3, 0), (4, 0), (5, 0), (6, 0)]) hC dX10_theft_158 (by decide) (by rw [e2]; decide) (by decide) (?_ : SdS X 161 [(0, 20), (1, 0), (2, 0), (3, 0), (4, 0), (5, 0), (6, 0)] [] _)
    refine su_goto (tgt := 97) hC dX10_theft_161 rfl (?_ : SdS X 97 [(0, 20), (1, 0), (2, 0), (3, 0), (4, 0), (5, 0), (6, 0)] [] _)
    exact SdS.weak (by decide) h97
  have S_154 : ∀ (k97 : xK), SdS X 97 [(0, 20), (1, 0), (2, 0), (3, 0), (4, 0), (5, 0), (6, 0)] [] k97 → SdS X 154 [(0, 20), (1, 0), (2, 0), (3, 0), (4, 0), (5, 0), (6, 0)] [0, 100] (B_X10_theft_154 Q k97) := by
    intro k97 h97
    unfold B_X10_theft_154
    refine su_ldc_w hC wl_8_158 dX10_theft_154 ⟨by decide, by decide⟩ (?_ : SdS X 157 [(0, 20), (1, 0), (2, 0), (3, 0), (4, 0), (5, 0), (6, 0)] [0, 0, 100] _)
    exact SdS.weak (by decide) (S_157 k97 h97)
  have S_128 : ∀ (k97 : xK), SdS X 97 [(0, 20), (1, 0), (2, 0), (3, 0), (4, 0), (5, 0), (6, 0)] [] k97 → SdS X 128 [(0, 20), (1, 0), (2, 0), (3, 0), (4, 0), (5, 0), (6, 0)] [0, 0, 100] (B_X10_theft_128 Q k97) := by
    intro k97 h97
    unfold B_X10_theft_128
    refine su_iastore hC dX10_theft_128 (?_ : SdS X 129 [(0, 20), (1, 0), (2, 0), (3, 0), (4, 0), (5, 0), (6, 0)] [] _)
    refine su_aload_n hC 20 dX10_theft_129 rfl (by decide) (by decide) (?_ : SdS X 130 [(0, 20), (1, 0), (2, 0), (3, 0), (4, 0), (5, 0), (6, 0)] [20] _)
    refine su_getR hC (ci := 10) (j := 41) (C := RX10) (T := TX10) (N := 45) rfl rfl (by decide) in_X10 wl_5_205 rfl dX10_theft_130 (?_ : SdS X 133 [(0, 20), (1, 0), (2, 0), (3, 0), (4, 0), (5, 0), (6, 0)] [100] _)
    refine su_iload hC dX10_theft_133 (by decide) (?_ : SdS X 135 [(0, 20), (1, 0), (2, 0), (3, 0), (4, 0), (5, 0), (6, 0)] [0, 100] _)
    refine su_iload hC dX10_theft_135 (by decide) (?_ : SdS X 137 [(0, 20), (1, 0), (2, 0), (3, 0), (4, 0), (5, 0), (6, 0)] [0, 0, 100] _)
    refine su_bipush hC dX10_theft_137 (by decide) (?_ : SdS X 139 [(0, 20), (1, 0), (2, 0), (3, 0), (4, 0), (5, 0), (6, 0)] [0, 0, 0, 100] _)
    refine su_icmp_ge (tgt := 154) hC dX10_theft_139 rfl (?_ : SdS X 154 [(0, 20), (1, 0), (2, 0), (3, 0), (4, 0), (5, 0), (6, 0)] [0, 100] _) (?_ : SdS X 142 [(0, 20), (1, 0), (2, 0), (3, 0), (4, 0), (5, 0), (6, 0)] [0, 100] _)
    · exact SdS.weak (by decide) (S_154 k97 h97)
    · refine su_aload_n hC 20 dX10_theft_142 rfl (by decide) (by decide) (?_ : SdS X 143 [(0, 20), (1, 0), (2, 0), (3, 0), (4, 0), (5, 0), (6, 0)] [20, 0, 100] _)
      refine su_iconst hC dX10_theft_143 ⟨by decide, by decide⟩ (?_ : SdS X 144 [(0, 20), (1, 0), (2, 0), (3, 0), (4, 0), (5, 0), (6, 0)] [0, 20, 0, 100] _)
      refine su_inv0 (τ := [0, 100]) (τr := [0]) (ci := 10) (q := (RX10, TX10, 45)) hC WG (M_X10_fitsRing _) rfl rfl rfl rfl  rfl rfl wl_7_118 wl_7_120 wp_93 wl_1_10 wl_7_121 hd_X10_fitsRing (by rw [e3]; decide) (by decide) dX10_theft_144 (?_ : SdS X 147 [(0, 20), (1, 0), (2, 0), (3, 0), (4, 0), (5, 0), (6, 0)] [0, 0, 100] _)
      refine su_if_eq (tgt := 154) hC dX10_theft_147 rfl (?_ : SdS X 154 [(0, 20), (1, 0), (2, 0), (3, 0), (4, 0), (5, 0), (6, 0)] [0, 100] _) (?_ : SdS X 150 [(0, 20), (1, 0), (2, 0), (3, 0), (4, 0), (5, 0), (6, 0)] [0, 100] _)
      · exact SdS.weak (by decide) (S_154 k97 h97)
      · refine su_iconst hC dX10_theft_150 ⟨by decide, by decide⟩ (?_ : SdS X 151 [(0, 20), (1, 0), (2, 0), (3, 0), (4, 0), (5, 0), (6, 0)] [0, 0, 100] _)
        refine su_goto (tgt := 157) hC dX10_theft_151 rfl (?_ : SdS X 157 [(0, 20), (1, 0), (2, 0), (3, 0), (4, 0), (5, 0), (6, 0)] [0, 0, 100] _)
        exact SdS.weak (by decide) (S_157 k97 h97)
  have S_97 : SdS X 97 [(0, 20), (1, 0), (2, 0), (3, 0), (4, 0), (5, 0), (6, 0)] [] (L_X10_theft_97 Q) := by
    unfold L_X10_theft_97
    refine SdS.loop (fun k97 h97 => ?_)
    refine su_iload hC dX10_theft_97 (by decide) (?_ : SdS X 99 [(0, 20), (1, 0), (2, 0), (3, 0), (4, 0), (5, 0), (6, 0)] [0] _)
    refine su_bipush hC dX10_theft_99 (by decide) (?_ : SdS X 101 [(0, 20), (1, 0), (2, 0), (3, 0), (4, 0), (5, 0), (6, 0)] [0, 0] _)
    refine su_icmp_ge (tgt := 164) hC dX10_theft_101 rfl (?_ : SdS X 164 [(0, 20), (1, 0), (2, 0), (3, 0), (4, 0), (5, 0), (6, 0)] [] _) (?_ : SdS X 104 [(0, 20), (1, 0), (2, 0), (3, 0), (4, 0), (5, 0), (6, 0)] [] _)
    · refine su_aload_n hC 20 dX10_theft_164 rfl (by decide) (by decide) (?_ : SdS X 165 [(0, 20), (1, 0), (2, 0), (3, 0), (4, 0), (5, 0), (6, 0)] [20] _)
      refine su_aload_n hC 20 dX10_theft_165 rfl (by decide) (by decide) (?_ : SdS X 166 [(0, 20), (1, 0), (2, 0), (3, 0), (4, 0), (5, 0), (6, 0)] [20, 20] _)
      refine su_getR hC (ci := 10) (j := 40) (C := RX10) (T := TX10) (N := 45) rfl rfl (by decide) in_X10 wl_5_204 rfl dX10_theft_166 (?_ : SdS X 169 [(0, 20), (1, 0), (2, 0), (3, 0), (4, 0), (5, 0), (6, 0)] [100, 20] _)
      refine su_inv0v (τ := []) (τr := [100]) (ci := 10) (q := (RX10, TX10, 45)) hC WG (M_X10_spreads _) rfl rfl rfl rfl  rfl rfl wl_8_159 wl_8_161 wp_129 wl_1_10 wl_8_162 hd_X10_spreads (by rw [e3]; decide) (by decide) dX10_theft_169 (?_ : SdS X 172 [(0, 20), (1, 0), (2, 0), (3, 0), (4, 0), (5, 0), (6, 0)] [] _)
      refine su_aload_n hC 20 dX10_theft_172 rfl (by decide) (by decide) (?_ : SdS X 173 [(0, 20), (1, 0), (2, 0), (3, 0), (4, 0), (5, 0), (6, 0)] [20] _)
      refine su_aload_n hC 20 dX10_theft_173 rfl (by decide) (by decide) (?_ : SdS X 174 [(0, 20), (1, 0), (2, 0), (3, 0), (4, 0), (5, 0), (6, 0)] [20, 20] _)
      refine su_getR hC (ci := 10) (j := 41) (C := RX10) (T := TX10) (N := 45) rfl rfl (by decide) in_X10 wl_5_205 rfl dX10_theft_174 (?_ : SdS X 177 [(0, 20), (1, 0), (2, 0), (3, 0), (4, 0), (5, 0), (6, 0)] [100, 20] _)
      refine su_inv0v (τ := []) (τr := [100]) (ci := 10) (q := (RX10, TX10, 45)) hC WG (M_X10_spreads _) rfl rfl rfl rfl  rfl rfl wl_8_159 wl_8_161 wp_129 wl_1_10 wl_8_162 hd_X10_spreads (by rw [e3]; decide) (by decide) dX10_theft_177 (?_ : SdS X 180 [(0, 20), (1, 0), (2, 0), (3, 0), (4, 0), (5, 0), (6, 0)] [] _)
      refine su_iconst hC dX10_theft_180 ⟨by decide, by decide⟩ (?_ : SdS X 181 [(0, 20), (1, 0), (2, 0), (3, 0), (4, 0), (5, 0), (6, 0)] [0] _)
      refine su_istore (Γ' := [(0, 20), (1, 0), (2, 0), (3, 0), (4, 0), (5, 0), (6, 0)]) hC dX10_theft_181 (by rw [e2]; decide) (by decide) (?_ : SdS X 183 [(0, 20), (1, 0), (2, 0), (3, 0), (4, 0), (5, 0), (6, 0)] [] _)
      refine su_iconst hC dX10_theft_183 ⟨by decide, by decide⟩ (?_ : SdS X 184 [(0, 20), (1, 0), (2, 0), (3, 0), (4, 0), (5, 0), (6, 0)] [0] _)
      refine su_istore (Γ' := [(0, 20), (1, 0), (2, 0), (3, 0), (4, 0), (5, 0), (6, 0), (7, 0)]) hC dX10_theft_184 (by rw [e2]; decide) (by decide) (?_ : SdS X 186 [(0, 20), (1, 0), (2, 0), (3, 0), (4, 0), (5, 0), (6, 0), (7, 0)] [] _)
      exact SdS.weak (by decide) (S_186)
    · refine su_aload_n hC 20 dX10_theft_104 rfl (by decide) (by decide) (?_ : SdS X 105 [(0, 20), (1, 0), (2, 0), (3, 0), (4, 0), (5, 0), (6, 0)] [20] _)
      refine su_getR hC (ci := 10) (j := 40) (C := RX10) (T := TX10) (N := 45) rfl rfl (by decide) in_X10 wl_5_204 rfl dX10_theft_105 (?_ : SdS X 108 [(0, 20), (1, 0), (2, 0), (3, 0), (4, 0), (5, 0), (6, 0)] [100] _)
      refine su_iload hC dX10_theft_108 (by decide) (?_ : SdS X 110 [(0, 20), (1, 0), (2, 0), (3, 0), (4, 0), (5, 0), (6, 0)] [0, 100] _)
      refine su_iload hC dX10_theft_110 (by decide) (?_ : SdS X 112 [(0, 20), (1, 0), (2, 0), (3, 0), (4, 0), (5, 0), (6, 0)] [0, 0, 100] _)
      refine su_bipush hC dX10_theft_112 (by decide) (?_ : SdS X 114 [(0, 20), (1, 0), (2, 0), (3, 0), (4, 0), (5, 0), (6, 0)] [0, 0, 0, 100] _)
      refine su_iload_n hC dX10_theft_114 rfl (by decide) (?_ : SdS X 115 [(0, 20), (1, 0), (2, 0), (3, 0), (4, 0), (5, 0), (6, 0)] [0, 0, 0, 0, 100] _)
      refine su_imul hC dX10_theft_115 (?_ : SdS X 116 [(0, 20), (1, 0), (2, 0), (3, 0), (4, 0), (5, 0), (6, 0)] [0, 0, 0, 100] _)
      refine su_iload_n hC dX10_theft_116 rfl (by decide) (?_ : SdS X 117 [(0, 20), (1, 0), (2, 0), (3, 0), (4, 0), (5, 0), (6, 0)] [0, 0, 0, 0, 100] _)
      refine su_iadd hC dX10_theft_117 (?_ : SdS X 118 [(0, 20), (1, 0), (2, 0), (3, 0), (4, 0), (5, 0), (6, 0)] [0, 0, 0, 100] _)
      refine su_icmp_ne (tgt := 125) hC dX10_theft_118 rfl (?_ : SdS X 125 [(0, 20), (1, 0), (2, 0), (3, 0), (4, 0), (5, 0), (6, 0)] [0, 100] _) (?_ : SdS X 121 [(0, 20), (1, 0), (2, 0), (3, 0), (4, 0), (5, 0), (6, 0)] [0, 100] _)
      · refine su_ldc_w hC wl_8_158 dX10_theft_125 ⟨by decide, by decide⟩ (?_ : SdS X 128 [(0, 20), (1, 0), (2, 0), (3, 0), (4, 0), (5, 0), (6, 0)] [0, 0, 100] _)
        exact SdS.weak (by decide) (S_128 k97 h97)
      · refine su_iconst hC dX10_theft_121 ⟨by decide, by decide⟩ (?_ : SdS X 122 [(0, 20), (1, 0), (2, 0), (3, 0), (4, 0), (5, 0), (6, 0)] [0, 0, 100] _)
        refine su_goto (tgt := 128) hC dX10_theft_122 rfl (?_ : SdS X 128 [(0, 20), (1, 0), (2, 0), (3, 0), (4, 0), (5, 0), (6, 0)] [0, 0, 100] _)
        exact SdS.weak (by decide) (S_128 k97 h97)
  have S_73 : SdS X 73 [(0, 20), (1, 0), (2, 0), (3, 0), (4, 0), (5, 0)] [] (B_X10_theft_73 Q) := by
    unfold B_X10_theft_73
    refine su_aload_n hC 20 dX10_theft_73 rfl (by decide) (by decide) (?_ : SdS X 74 [(0, 20), (1, 0), (2, 0), (3, 0), (4, 0), (5, 0)] [20] _)
    refine su_iload_n hC dX10_theft_74 rfl (by decide) (?_ : SdS X 75 [(0, 20), (1, 0), (2, 0), (3, 0), (4, 0), (5, 0)] [0, 20] _)
    refine su_iload hC dX10_theft_75 (by decide) (?_ : SdS X 77 [(0, 20), (1, 0), (2, 0), (3, 0), (4, 0), (5, 0)] [0, 0, 20] _)
    refine su_inv0v (τ := []) (τr := [0, 0]) (ci := 10) (q := (RX10, TX10, 45)) hC WG (M_X10_takes _) rfl rfl rfl rfl  rfl rfl wl_7_103 wl_7_105 wp_90 wl_1_10 wl_7_106 hd_X10_takes (by rw [e3]; decide) (by decide) dX10_theft_77 (?_ : SdS X 80 [(0, 20), (1, 0), (2, 0), (3, 0), (4, 0), (5, 0)] [] _)
    refine su_aload_n hC 20 dX10_theft_80 rfl (by decide) (by decide) (?_ : SdS X 81 [(0, 20), (1, 0), (2, 0), (3, 0), (4, 0), (5, 0)] [20] _)
    refine su_iload_n hC dX10_theft_81 rfl (by decide) (?_ : SdS X 82 [(0, 20), (1, 0), (2, 0), (3, 0), (4, 0), (5, 0)] [0, 20] _)
    refine su_inv0 (τ := []) (τr := [0]) (ci := 10) (q := (RX10, TX10, 45)) hC WG (M_X10_fitsRing _) rfl rfl rfl rfl  rfl rfl wl_7_118 wl_7_120 wp_93 wl_1_10 wl_7_121 hd_X10_fitsRing (by rw [e3]; decide) (by decide) dX10_theft_82 (?_ : SdS X 85 [(0, 20), (1, 0), (2, 0), (3, 0), (4, 0), (5, 0)] [0] _)
    refine su_if_ne (tgt := 94) hC dX10_theft_85 rfl (?_ : SdS X 94 [(0, 20), (1, 0), (2, 0), (3, 0), (4, 0), (5, 0)] [] _) (?_ : SdS X 88 [(0, 20), (1, 0), (2, 0), (3, 0), (4, 0), (5, 0)] [] _)
    · refine su_iconst hC dX10_theft_94 ⟨by decide, by decide⟩ (?_ : SdS X 95 [(0, 20), (1, 0), (2, 0), (3, 0), (4, 0), (5, 0)] [0] _)
      refine su_istore (Γ' := [(0, 20), (1, 0), (2, 0), (3, 0), (4, 0), (5, 0), (6, 0)]) hC dX10_theft_95 (by rw [e2]; decide) (by decide) (?_ : SdS X 97 [(0, 20), (1, 0), (2, 0), (3, 0), (4, 0), (5, 0), (6, 0)] [] _)
      exact SdS.weak (by decide) (S_97)
    · refine su_aload_n hC 20 dX10_theft_88 rfl (by decide) (by decide) (?_ : SdS X 89 [(0, 20), (1, 0), (2, 0), (3, 0), (4, 0), (5, 0)] [20] _)
      refine su_iconst hC dX10_theft_89 ⟨by decide, by decide⟩ (?_ : SdS X 90 [(0, 20), (1, 0), (2, 0), (3, 0), (4, 0), (5, 0)] [0, 20] _)
      refine su_inv0 (τ := []) (τr := [0]) (ci := 10) (q := (RX10, TX10, 45)) hC WG (M_X10_good _) rfl rfl rfl rfl  rfl rfl wl_7_171 wl_7_173 wp_105 wl_1_10 wl_7_174 hd_X10_good (by rw [e3]; decide) (by decide) dX10_theft_90 (?_ : SdS X 93 [(0, 20), (1, 0), (2, 0), (3, 0), (4, 0), (5, 0)] [0] _)
      exact su_ireturn hC hT dX10_theft_93
  refine (?_ : SdS X 0 [(0, 20), (1, 0), (2, 0), (3, 0), (4, 0), (5, 0)] [] (E_X10_theft Q))
  unfold E_X10_theft
  refine su_aload_n hC 20 dX10_theft_0 rfl (by decide) (by decide) (?_ : SdS X 1 [(0, 20), (1, 0), (2, 0), (3, 0), (4, 0), (5, 0)] [20] _)
  refine su_iconst hC dX10_theft_1 ⟨by decide, by decide⟩ (?_ : SdS X 2 [(0, 20), (1, 0), (2, 0), (3, 0), (4, 0), (5, 0)] [0, 20] _)
  refine su_putF hC (ci := 10) (j := 0) (C := RX10) (T := TX10) (N := 45) tyX10 tyX10_ok nmX10 rfl rfl (by decide) in_X10 rfl rfl wl_5_164 rfl dX10_theft_2 (?_ : SdS X 5 [(0, 20), (1, 0), (2, 0), (3, 0), (4, 0), (5, 0)] [] _)
  refine su_aload_n hC 20 dX10_theft_5 rfl (by decide) (by decide) (?_ : SdS X 6 [(0, 20), (1, 0), (2, 0), (3, 0), (4, 0), (5, 0)] [20] _)
  refine su_iload_n hC dX10_theft_6 rfl (by decide) (?_ : SdS X 7 [(0, 20), (1, 0), (2, 0), (3, 0), (4, 0), (5, 0)] [0, 20] _)
  refine su_inv0 (τ := []) (τr := [0]) (ci := 10) (q := (RX10, TX10, 45)) hC WG (M_X10_isGood _) rfl rfl rfl rfl  rfl rfl wl_7_195 wl_7_197 wp_107 wl_1_10 wl_7_198 hd_X10_isGood (by rw [e3]; decide) (by decide) dX10_theft_7 (?_ : SdS X 10 [(0, 20), (1, 0), (2, 0), (3, 0), (4, 0), (5, 0)] [0] _)
  refine su_if_eq (tgt := 31) hC dX10_theft_10 rfl (?_ : SdS X 31 [(0, 20), (1, 0), (2, 0), (3, 0), (4, 0), (5, 0)] [] _) (?_ : SdS X 13 [(0, 20), (1, 0), (2, 0), (3, 0), (4, 0), (5, 0)] [] _)
  · exact SdS.weak (by decide) (S_31)
  · refine su_aload_n hC 20 dX10_theft_13 rfl (by decide) (by decide) (?_ : SdS X 14 [(0, 20), (1, 0), (2, 0), (3, 0), (4, 0), (5, 0)] [20] _)
    refine su_iload_n hC dX10_theft_14 rfl (by decide) (?_ : SdS X 15 [(0, 20), (1, 0), (2, 0), (3, 0), (4, 0), (5, 0)] [0, 20] _)
    refine su_inv0 (τ := []) (τr := [0]) (ci := 10) (q := (RX10, TX10, 45)) hC WG (M_X10_isRing _) rfl rfl rfl rfl  rfl rfl wl_7_199 wl_7_201 wp_108 wl_1_10 wl_7_202 hd_X10_isRing (by rw [e3]; decide) (by decide) dX10_theft_15 (?_ : SdS X 18 [(0, 20), (1, 0), (2, 0), (3, 0), (4, 0), (5, 0)] [0] _)
    refine su_if_eq (tgt := 31) hC dX10_theft_18 rfl (?_ : SdS X 31 [(0, 20), (1, 0), (2, 0), (3, 0), (4, 0), (5, 0)] [] _) (?_ : SdS X 21 [(0, 20), (1, 0), (2, 0), (3, 0), (4, 0), (5, 0)] [] _)
    · exact SdS.weak (by decide) (S_31)
    · refine su_iload_n hC dX10_theft_21 rfl (by decide) (?_ : SdS X 22 [(0, 20), (1, 0), (2, 0), (3, 0), (4, 0), (5, 0)] [0] _)
      refine su_iconst hC dX10_theft_22 ⟨by decide, by decide⟩ (?_ : SdS X 23 [(0, 20), (1, 0), (2, 0), (3, 0), (4, 0), (5, 0)] [0, 0] _)
      refine su_bipush hC dX10_theft_23 (by decide) (?_ : SdS X 25 [(0, 20), (1, 0), (2, 0), (3, 0), (4, 0), (5, 0)] [0, 0, 0] _)
      refine su_invs (τ := []) (τs := [0, 0, 0]) hC false "" WG (M_X10_in _) rfl rfl rfl rfl wl_6_238 wl_6_239 wl_1_10 wl_7_0 hd_X10_in (by rw [e3]; decide) (by decide) dX10_theft_25 (?_ : SdS X 28 [(0, 20), (1, 0), (2, 0), (3, 0), (4, 0), (5, 0)] [0] _)
      refine su_if_ne (tgt := 37) hC dX10_theft_28 rfl (?_ : SdS X 37 [(0, 20), (1, 0), (2, 0), (3, 0), (4, 0), (5, 0)] [] _) (?_ : SdS X 31 [(0, 20), (1, 0), (2, 0), (3, 0), (4, 0), (5, 0)] [] _)
      · refine su_iload hC dX10_theft_37 (by decide) (?_ : SdS X 39 [(0, 20), (1, 0), (2, 0), (3, 0), (4, 0), (5, 0)] [0] _)
        refine su_iconst hC dX10_theft_39 ⟨by decide, by decide⟩ (?_ : SdS X 40 [(0, 20), (1, 0), (2, 0), (3, 0), (4, 0), (5, 0)] [0, 0] _)
        refine su_bipush hC dX10_theft_40 (by decide) (?_ : SdS X 42 [(0, 20), (1, 0), (2, 0), (3, 0), (4, 0), (5, 0)] [0, 0, 0] _)
        refine su_invs (τ := []) (τs := [0, 0, 0]) hC false "" WG (M_X10_in _) rfl rfl rfl rfl wl_6_238 wl_6_239 wl_1_10 wl_7_0 hd_X10_in (by rw [e3]; decide) (by decide) dX10_theft_42 (?_ : SdS X 45 [(0, 20), (1, 0), (2, 0), (3, 0), (4, 0), (5, 0)] [0] _)
        refine su_if_ne (tgt := 54) hC dX10_theft_45 rfl (?_ : SdS X 54 [(0, 20), (1, 0), (2, 0), (3, 0), (4, 0), (5, 0)] [] _) (?_ : SdS X 48 [(0, 20), (1, 0), (2, 0), (3, 0), (4, 0), (5, 0)] [] _)
        · refine su_iload hC dX10_theft_54 (by decide) (?_ : SdS X 56 [(0, 20), (1, 0), (2, 0), (3, 0), (4, 0), (5, 0)] [0] _)
          refine su_if_eq (tgt := 73) hC dX10_theft_56 rfl (?_ : SdS X 73 [(0, 20), (1, 0), (2, 0), (3, 0), (4, 0), (5, 0)] [] _) (?_ : SdS X 59 [(0, 20), (1, 0), (2, 0), (3, 0), (4, 0), (5, 0)] [] _)
          · exact SdS.weak (by decide) (S_73)
          · refine su_aload_n hC 20 dX10_theft_59 rfl (by decide) (by decide) (?_ : SdS X 60 [(0, 20), (1, 0), (2, 0), (3, 0), (4, 0), (5, 0)] [20] _)
            refine su_iload_n hC dX10_theft_60 rfl (by decide) (?_ : SdS X 61 [(0, 20), (1, 0), (2, 0), (3, 0), (4, 0), (5, 0)] [0, 20] _)
            refine su_inv0 (τ := []) (τr := [0]) (ci := 10) (q := (RX10, TX10, 45)) hC WG (M_X10_canCut _) rfl rfl rfl rfl  rfl rfl wl_7_99 wl_7_101 wp_89 wl_1_10 wl_7_102 hd_X10_canCut (by rw [e3]; decide) (by decide) dX10_theft_61 (?_ : SdS X 64 [(0, 20), (1, 0), (2, 0), (3, 0), (4, 0), (5, 0)] [0] _)
            refine su_if_ne (tgt := 73) hC dX10_theft_64 rfl (?_ : SdS X 73 [(0, 20), (1, 0), (2, 0), (3, 0), (4, 0), (5, 0)] [] _) (?_ : SdS X 67 [(0, 20), (1, 0), (2, 0), (3, 0), (4, 0), (5, 0)] [] _)
            · exact SdS.weak (by decide) (S_73)
            · refine su_aload_n hC 20 dX10_theft_67 rfl (by decide) (by decide) (?_ : SdS X 68 [(0, 20), (1, 0), (2, 0), (3, 0), (4, 0), (5, 0)] [20] _)
              refine su_iconst hC dX10_theft_68 ⟨by decide, by decide⟩ (?_ : SdS X 69 [(0, 20), (1, 0), (2, 0), (3, 0), (4, 0), (5, 0)] [0, 20] _)
              refine su_inv0 (τ := []) (τr := [0]) (ci := 10) (q := (RX10, TX10, 45)) hC WG (M_X10_refused _) rfl rfl rfl rfl  rfl rfl wl_6_72 wl_6_74 wp_63 wl_1_10 wl_6_75 hd_X10_refused (by rw [e3]; decide) (by decide) dX10_theft_69 (?_ : SdS X 72 [(0, 20), (1, 0), (2, 0), (3, 0), (4, 0), (5, 0)] [0] _)
              exact su_ireturn hC hT dX10_theft_72
        · refine su_aload_n hC 20 dX10_theft_48 rfl (by decide) (by decide) (?_ : SdS X 49 [(0, 20), (1, 0), (2, 0), (3, 0), (4, 0), (5, 0)] [20] _)
          refine su_iconst hC dX10_theft_49 ⟨by decide, by decide⟩ (?_ : SdS X 50 [(0, 20), (1, 0), (2, 0), (3, 0), (4, 0), (5, 0)] [0, 20] _)
          refine su_inv0 (τ := []) (τr := [0]) (ci := 10) (q := (RX10, TX10, 45)) hC WG (M_X10_refused _) rfl rfl rfl rfl  rfl rfl wl_6_72 wl_6_74 wp_63 wl_1_10 wl_6_75 hd_X10_refused (by rw [e3]; decide) (by decide) dX10_theft_50 (?_ : SdS X 53 [(0, 20), (1, 0), (2, 0), (3, 0), (4, 0), (5, 0)] [0] _)
          exact su_ireturn hC hT dX10_theft_53
      · exact SdS.weak (by decide) (S_31)
theorem hd_X10_thrown : yX10_thrown.cls ≠ "java/lang/invoke/MethodHandle" ∧ yX10_thrown.cls ≠ "java/lang/invoke/VarHandle" ∧ (parseMethodDescriptor yX10_thrown.desc).map (fun d => d.parameters.length) = some 0 := by decide +kernel
set_option maxRecDepth 100000 in
set_option maxHeartbeats 4000000 in
theorem M_X10_thrown (l : Launch) : MtS l yX10_thrown (Cond.code yX10_thrown cX10_thrown 1 (some .int) :: WALL) { frames := 0, cells := 0, slots := 0, locals := 0 } [20] (some 0) T_X10_thrown := by
  refine MtS.mk (B := E_X10_thrown) (by decide +kernel) (by decide) (fun _ _ _ hh => hh) ?_
  intro X Q e1 e2 e3 hC hN hT
  subst e1
  have hC : CF X cX10_thrown RX10 WALL := hC
  refine (?_ : SdS X 0 [(0, 20)] [] (E_X10_thrown Q))
  unfold E_X10_thrown
  refine su_aload_n hC 20 dX10_thrown_0 rfl (by decide) (by decide) (?_ : SdS X 1 [(0, 20)] [20] _)
  refine su_getF hC (ci := 10) (j := 0) (C := RX10) (T := TX10) (N := 45) rfl rfl (by decide) in_X10 wl_5_164 rfl dX10_thrown_1 (?_ : SdS X 4 [(0, 20)] [0] _)
  exact su_ireturn hC hT dX10_thrown_4
theorem hd_X10_tolls : yX10_tolls.cls ≠ "java/lang/invoke/MethodHandle" ∧ yX10_tolls.cls ≠ "java/lang/invoke/VarHandle" ∧ (parseMethodDescriptor yX10_tolls.desc).map (fun d => d.parameters.length) = some 1 := by decide +kernel
set_option maxRecDepth 100000 in
set_option maxHeartbeats 4000000 in
theorem M_X10_tolls (l : Launch) : MtS l yX10_tolls (Cond.code yX10_tolls cX10_tolls 2 (some .int) :: WALL) { frames := 1, cells := 0, slots := 0, locals := 21 } [20, 0] (some 0) T_X10_tolls := by
  refine MtS.mk (B := E_X10_tolls) (by decide +kernel) (by decide) (fun _ _ _ hh => hh) ?_
  intro X Q e1 e2 e3 hC hN hT
  subst e1
  have hC : CF X cX10_tolls RX10 WALL := hC
  have S_35 : SdS X 35 [(0, 20), (1, 0)] [0] (B_X10_tolls_35 Q) := by
    unfold B_X10_tolls_35
    exact su_ireturn hC hT dX10_tolls_35
  refine (?_ : SdS X 0 [(0, 20), (1, 0)] [] (E_X10_tolls Q))
  unfold E_X10_tolls
  refine su_aload_n hC 20 dX10_tolls_0 rfl (by decide) (by decide) (?_ : SdS X 1 [(0, 20), (1, 0)] [20] _)
  refine su_iconst hC dX10_tolls_1 ⟨by decide, by decide⟩ (?_ : SdS X 2 [(0, 20), (1, 0)] [0, 20] _)
  refine su_putF hC (ci := 10) (j := 0) (C := RX10) (T := TX10) (N := 45) tyX10 tyX10_ok nmX10 rfl rfl (by decide) in_X10 rfl rfl wl_5_164 rfl dX10_tolls_2 (?_ : SdS X 5 [(0, 20), (1, 0)] [] _)
  refine su_aload_n hC 20 dX10_tolls_5 rfl (by decide) (by decide) (?_ : SdS X 6 [(0, 20), (1, 0)] [20] _)
  refine su_iload_n hC dX10_tolls_6 rfl (by decide) (?_ : SdS X 7 [(0, 20), (1, 0)] [0, 20] _)
  refine su_inv0 (τ := []) (τr := [0]) (ci := 10) (q := (RX10, TX10, 45)) hC WG (M_X10_isGate _) rfl rfl rfl rfl  rfl rfl wl_7_187 wl_7_189 wp_106 wl_1_10 wl_7_190 hd_X10_isGate (by rw [e3]; decide) (by decide) dX10_tolls_7 (?_ : SdS X 10 [(0, 20), (1, 0)] [0] _)
  refine su_if_eq (tgt := 30) hC dX10_tolls_10 rfl (?_ : SdS X 30 [(0, 20), (1, 0)] [] _) (?_ : SdS X 13 [(0, 20), (1, 0)] [] _)
  · refine su_aload_n hC 20 dX10_tolls_30 rfl (by decide) (by decide) (?_ : SdS X 31 [(0, 20), (1, 0)] [20] _)
    refine su_iconst hC dX10_tolls_31 ⟨by decide, by decide⟩ (?_ : SdS X 32 [(0, 20), (1, 0)] [0, 20] _)
    refine su_inv0 (τ := []) (τr := [0]) (ci := 10) (q := (RX10, TX10, 45)) hC WG (M_X10_refused _) rfl rfl rfl rfl  rfl rfl wl_6_72 wl_6_74 wp_63 wl_1_10 wl_6_75 hd_X10_refused (by rw [e3]; decide) (by decide) dX10_tolls_32 (?_ : SdS X 35 [(0, 20), (1, 0)] [0] _)
    exact SdS.weak (by decide) (S_35)
  · refine su_aload_n hC 20 dX10_tolls_13 rfl (by decide) (by decide) (?_ : SdS X 14 [(0, 20), (1, 0)] [20] _)
    refine su_aload_n hC 20 dX10_tolls_14 rfl (by decide) (by decide) (?_ : SdS X 15 [(0, 20), (1, 0)] [20, 20] _)
    refine su_getR hC (ci := 10) (j := 32) (C := RX10) (T := TX10) (N := 45) rfl rfl (by decide) in_X10 wl_5_196 rfl dX10_tolls_15 (?_ : SdS X 18 [(0, 20), (1, 0)] [100, 20] _)
    refine su_sipush hC dX10_tolls_18 (by decide) (?_ : SdS X 21 [(0, 20), (1, 0)] [0, 100, 20] _)
    refine su_iload_n hC dX10_tolls_21 rfl (by decide) (?_ : SdS X 22 [(0, 20), (1, 0)] [0, 0, 100, 20] _)
    refine su_iadd hC dX10_tolls_22 (?_ : SdS X 23 [(0, 20), (1, 0)] [0, 100, 20] _)
    refine su_iaload hC dX10_tolls_23 (?_ : SdS X 24 [(0, 20), (1, 0)] [0, 20] _)
    refine su_inv0 (τ := []) (τr := [0]) (ci := 10) (q := (RX10, TX10, 45)) hC WG (M_X10_good _) rfl rfl rfl rfl  rfl rfl wl_7_171 wl_7_173 wp_105 wl_1_10 wl_7_174 hd_X10_good (by rw [e3]; decide) (by decide) dX10_tolls_24 (?_ : SdS X 27 [(0, 20), (1, 0)] [0] _)
    refine su_goto (tgt := 35) hC dX10_tolls_27 rfl (?_ : SdS X 35 [(0, 20), (1, 0)] [0] _)
    exact SdS.weak (by decide) (S_35)
theorem hd_X10_trouble : yX10_trouble.cls ≠ "java/lang/invoke/MethodHandle" ∧ yX10_trouble.cls ≠ "java/lang/invoke/VarHandle" ∧ (parseMethodDescriptor yX10_trouble.desc).map (fun d => d.parameters.length) = some 0 := by decide +kernel
set_option maxRecDepth 100000 in
set_option maxHeartbeats 4000000 in
theorem M_X10_trouble (l : Launch) : MtS l yX10_trouble (Cond.code yX10_trouble cX10_trouble 1 (some .int) :: WALL) { frames := 0, cells := 0, slots := 0, locals := 0 } [20] (some 0) T_X10_trouble := by
  refine MtS.mk (B := E_X10_trouble) (by decide +kernel) (by decide) (fun _ _ _ hh => hh) ?_
  intro X Q e1 e2 e3 hC hN hT
  subst e1
  have hC : CF X cX10_trouble RX10 WALL := hC
  refine (?_ : SdS X 0 [(0, 20)] [] (E_X10_trouble Q))
  unfold E_X10_trouble
  refine su_aload_n hC 20 dX10_trouble_0 rfl (by decide) (by decide) (?_ : SdS X 1 [(0, 20)] [20] _)
  refine su_iconst hC dX10_trouble_1 ⟨by decide, by decide⟩ (?_ : SdS X 2 [(0, 20)] [0, 20] _)
  refine su_putF hC (ci := 10) (j := 0) (C := RX10) (T := TX10) (N := 45) tyX10 tyX10_ok nmX10 rfl rfl (by decide) in_X10 rfl rfl wl_5_164 rfl dX10_trouble_2 (?_ : SdS X 5 [(0, 20)] [] _)
  refine su_aload_n hC 20 dX10_trouble_5 rfl (by decide) (by decide) (?_ : SdS X 6 [(0, 20)] [20] _)
  refine su_getF hC (ci := 10) (j := 1) (C := RX10) (T := TX10) (N := 45) rfl rfl (by decide) in_X10 wl_5_165 rfl dX10_trouble_6 (?_ : SdS X 9 [(0, 20)] [0] _)
  exact su_ireturn hC hT dX10_trouble_9
theorem hd_X10_undo : yX10_undo.cls ≠ "java/lang/invoke/MethodHandle" ∧ yX10_undo.cls ≠ "java/lang/invoke/VarHandle" ∧ (parseMethodDescriptor yX10_undo.desc).map (fun d => d.parameters.length) = some 0 := by decide +kernel
set_option maxRecDepth 100000 in
set_option maxHeartbeats 4000000 in
theorem M_X10_undo (l : Launch) : MtS l yX10_undo (Cond.code yX10_undo cX10_undo 3 (some .boolean) :: WALL) { frames := 8, cells := 0, slots := 0, locals := 195 } [20] (some 0) T_X10_undo := by
  refine MtS.mk (B := E_X10_undo) (by decide +kernel) (by decide) (fun _ _ _ hh => hh) ?_
  intro X Q e1 e2 e3 hC hN hT
  subst e1
  have hC : CF X cX10_undo RX10 WALL := hC
  have S_34 : SdS X 34 [(0, 20), (1, 0), (2, 0)] [] (L_X10_undo_34 Q) := by
    unfold L_X10_undo_34
    refine SdS.loop (fun k34 h34 => ?_)
    refine su_iload_n hC dX10_undo_34 rfl (by decide) (?_ : SdS X 35 [(0, 20), (1, 0), (2, 0)] [0] _)
    refine su_iload_n hC dX10_undo_35 rfl (by decide) (?_ : SdS X 36 [(0, 20), (1, 0), (2, 0)] [0, 0] _)
    refine su_icmp_ge (tgt := 64) hC dX10_undo_36 rfl (?_ : SdS X 64 [(0, 20), (1, 0), (2, 0)] [] _) (?_ : SdS X 39 [(0, 20), (1, 0), (2, 0)] [] _)
    · refine su_aload_n hC 20 dX10_undo_64 rfl (by decide) (by decide) (?_ : SdS X 65 [(0, 20), (1, 0), (2, 0)] [20] _)
      refine su_aload_n hC 20 dX10_undo_65 rfl (by decide) (by decide) (?_ : SdS X 66 [(0, 20), (1, 0), (2, 0)] [20, 20] _)
      refine su_getR hC (ci := 10) (j := 43) (C := RX10) (T := TX10) (N := 45) rfl rfl (by decide) in_X10 wl_5_207 rfl dX10_undo_66 (?_ : SdS X 69 [(0, 20), (1, 0), (2, 0)] [100, 20] _)
      refine su_aload_n hC 20 dX10_undo_69 rfl (by decide) (by decide) (?_ : SdS X 70 [(0, 20), (1, 0), (2, 0)] [20, 100, 20] _)
      refine su_getF hC (ci := 10) (j := 44) (C := RX10) (T := TX10) (N := 45) rfl rfl (by decide) in_X10 wl_5_208 rfl dX10_undo_70 (?_ : SdS X 73 [(0, 20), (1, 0), (2, 0)] [0, 100, 20] _)
      refine su_iaload hC dX10_undo_73 (?_ : SdS X 74 [(0, 20), (1, 0), (2, 0)] [0, 20] _)
      refine su_putF hC (ci := 10) (j := 17) (C := RX10) (T := TX10) (N := 45) tyX10 tyX10_ok nmX10 rfl rfl (by decide) in_X10 rfl rfl wl_5_181 rfl dX10_undo_74 (?_ : SdS X 77 [(0, 20), (1, 0), (2, 0)] [] _)
      refine su_aload_n hC 20 dX10_undo_77 rfl (by decide) (by decide) (?_ : SdS X 78 [(0, 20), (1, 0), (2, 0)] [20] _)
      refine su_inv0v (τ := []) (τr := []) (ci := 10) (q := (RX10, TX10, 45)) hC WG (M_X10_dawns _) rfl rfl rfl rfl  rfl rfl wl_7_87 wl_7_89 wp_86 wl_1_10 wl_7_90 hd_X10_dawns (by rw [e3]; decide) (by decide) dX10_undo_78 (?_ : SdS X 81 [(0, 20), (1, 0), (2, 0)] [] _)
      refine su_aload_n hC 20 dX10_undo_81 rfl (by decide) (by decide) (?_ : SdS X 82 [(0, 20), (1, 0), (2, 0)] [20] _)
      refine su_inv0 (τ := []) (τr := []) (ci := 10) (q := (RX10, TX10, 45)) hC WG (M_X10_granted _) rfl rfl rfl rfl  rfl rfl wl_8_75 wl_8_77 wp_125 wl_1_10 wl_8_78 hd_X10_granted (by rw [e3]; decide) (by decide) dX10_undo_82 (?_ : SdS X 85 [(0, 20), (1, 0), (2, 0)] [0] _)
      exact su_zreturn hC hT dX10_undo_85
    · refine su_aload_n hC 20 dX10_undo_39 rfl (by decide) (by decide) (?_ : SdS X 40 [(0, 20), (1, 0), (2, 0)] [20] _)
      refine su_getR hC (ci := 10) (j := 16) (C := RX10) (T := TX10) (N := 45) rfl rfl (by decide) in_X10 wl_5_180 rfl dX10_undo_40 (?_ : SdS X 43 [(0, 20), (1, 0), (2, 0)] [100] _)
      refine su_iload_n hC dX10_undo_43 rfl (by decide) (?_ : SdS X 44 [(0, 20), (1, 0), (2, 0)] [0, 100] _)
      refine su_aload_n hC 20 dX10_undo_44 rfl (by decide) (by decide) (?_ : SdS X 45 [(0, 20), (1, 0), (2, 0)] [20, 0, 100] _)
      refine su_getR hC (ci := 10) (j := 42) (C := RX10) (T := TX10) (N := 45) rfl rfl (by decide) in_X10 wl_5_206 rfl dX10_undo_45 (?_ : SdS X 48 [(0, 20), (1, 0), (2, 0)] [100, 0, 100] _)
      refine su_iload_n hC dX10_undo_48 rfl (by decide) (?_ : SdS X 49 [(0, 20), (1, 0), (2, 0)] [0, 100, 0, 100] _)
      refine su_aload_n hC 20 dX10_undo_49 rfl (by decide) (by decide) (?_ : SdS X 50 [(0, 20), (1, 0), (2, 0)] [20, 0, 100, 0, 100] _)
      refine su_getF hC (ci := 10) (j := 44) (C := RX10) (T := TX10) (N := 45) rfl rfl (by decide) in_X10 wl_5_208 rfl dX10_undo_50 (?_ : SdS X 53 [(0, 20), (1, 0), (2, 0)] [0, 0, 100, 0, 100] _)
      refine su_imul hC dX10_undo_53 (?_ : SdS X 54 [(0, 20), (1, 0), (2, 0)] [0, 100, 0, 100] _)
      refine su_iload_n hC dX10_undo_54 rfl (by decide) (?_ : SdS X 55 [(0, 20), (1, 0), (2, 0)] [0, 0, 100, 0, 100] _)
      refine su_iadd hC dX10_undo_55 (?_ : SdS X 56 [(0, 20), (1, 0), (2, 0)] [0, 100, 0, 100] _)
      refine su_iaload hC dX10_undo_56 (?_ : SdS X 57 [(0, 20), (1, 0), (2, 0)] [0, 0, 100] _)
      refine su_iastore hC dX10_undo_57 (?_ : SdS X 58 [(0, 20), (1, 0), (2, 0)] [] _)
      refine su_iinc (Γ' := [(0, 20), (1, 0), (2, 0)]) hC dX10_undo_58 (by decide) (by rw [e2]; decide) (by decide) (?_ : SdS X 61 [(0, 20), (1, 0), (2, 0)] [] _)
      refine su_goto (tgt := 34) hC dX10_undo_61 rfl (?_ : SdS X 34 [(0, 20), (1, 0), (2, 0)] [] _)
      exact SdS.weak (by decide) h34
  refine (?_ : SdS X 0 [(0, 20)] [] (E_X10_undo Q))
  unfold E_X10_undo
  refine su_aload_n hC 20 dX10_undo_0 rfl (by decide) (by decide) (?_ : SdS X 1 [(0, 20)] [20] _)
  refine su_iconst hC dX10_undo_1 ⟨by decide, by decide⟩ (?_ : SdS X 2 [(0, 20)] [0, 20] _)
  refine su_putF hC (ci := 10) (j := 0) (C := RX10) (T := TX10) (N := 45) tyX10 tyX10_ok nmX10 rfl rfl (by decide) in_X10 rfl rfl wl_5_164 rfl dX10_undo_2 (?_ : SdS X 5 [(0, 20)] [] _)
  refine su_aload_n hC 20 dX10_undo_5 rfl (by decide) (by decide) (?_ : SdS X 6 [(0, 20)] [20] _)
  refine su_getF hC (ci := 10) (j := 44) (C := RX10) (T := TX10) (N := 45) rfl rfl (by decide) in_X10 wl_5_208 rfl dX10_undo_6 (?_ : SdS X 9 [(0, 20)] [0] _)
  refine su_if_ne (tgt := 19) hC dX10_undo_9 rfl (?_ : SdS X 19 [(0, 20)] [] _) (?_ : SdS X 12 [(0, 20)] [] _)
  · refine su_aload_n hC 20 dX10_undo_19 rfl (by decide) (by decide) (?_ : SdS X 20 [(0, 20)] [20] _)
    refine su_dup hC (by decide) dX10_undo_20 (?_ : SdS X 21 [(0, 20)] [20, 20] _)
    refine su_getF hC (ci := 10) (j := 44) (C := RX10) (T := TX10) (N := 45) rfl rfl (by decide) in_X10 wl_5_208 rfl dX10_undo_21 (?_ : SdS X 24 [(0, 20)] [0, 20] _)
    refine su_iconst hC dX10_undo_24 ⟨by decide, by decide⟩ (?_ : SdS X 25 [(0, 20)] [0, 0, 20] _)
    refine su_isub hC dX10_undo_25 (?_ : SdS X 26 [(0, 20)] [0, 20] _)
    refine su_putF hC (ci := 10) (j := 44) (C := RX10) (T := TX10) (N := 45) tyX10 tyX10_ok nmX10 rfl rfl (by decide) in_X10 rfl rfl wl_5_208 rfl dX10_undo_26 (?_ : SdS X 29 [(0, 20)] [] _)
    refine su_bipush hC dX10_undo_29 (by decide) (?_ : SdS X 31 [(0, 20)] [0] _)
    refine su_istore_n (Γ' := [(0, 20), (1, 0)]) hC dX10_undo_31 rfl (by rw [e2]; decide) (by decide) (?_ : SdS X 32 [(0, 20), (1, 0)] [] _)
    refine su_iconst hC dX10_undo_32 ⟨by decide, by decide⟩ (?_ : SdS X 33 [(0, 20), (1, 0)] [0] _)
    refine su_istore_n (Γ' := [(0, 20), (1, 0), (2, 0)]) hC dX10_undo_33 rfl (by rw [e2]; decide) (by decide) (?_ : SdS X 34 [(0, 20), (1, 0), (2, 0)] [] _)
    exact SdS.weak (by decide) (S_34)
  · refine su_aload_n hC 20 dX10_undo_12 rfl (by decide) (by decide) (?_ : SdS X 13 [(0, 20)] [20] _)
    refine su_bipush hC dX10_undo_13 (by decide) (?_ : SdS X 15 [(0, 20)] [0, 20] _)
    refine su_inv0 (τ := []) (τr := [0]) (ci := 10) (q := (RX10, TX10, 45)) hC WG (M_X10_denied _) rfl rfl rfl rfl  rfl rfl wl_8_71 wl_8_73 wp_124 wl_1_10 wl_8_74 hd_X10_denied (by rw [e3]; decide) (by decide) dX10_undo_15 (?_ : SdS X 18 [(0, 20)] [0] _)
    exact su_zreturn hC hT dX10_undo_18
theorem hd_X10_waited : yX10_waited.cls ≠ "java/lang/invoke/MethodHandle" ∧ yX10_waited.cls ≠ "java/lang/invoke/VarHandle" ∧ (parseMethodDescriptor yX10_waited.desc).map (fun d => d.parameters.length) = some 0 := by decide +kernel
set_option maxRecDepth 100000 in
set_option maxHeartbeats 4000000 in
theorem M_X10_waited (l : Launch) : MtS l yX10_waited (Cond.code yX10_waited cX10_waited 3 (some .int) :: WALL) { frames := 1, cells := 0, slots := 0, locals := 21 } [20] (some 0) T_X10_waited := by
  refine MtS.mk (B := E_X10_waited) (by decide +kernel) (by decide) (fun _ _ _ hh => hh) ?_
  intro X Q e1 e2 e3 hC hN hT
  subst e1
  have hC : CF X cX10_waited RX10 WALL := hC
  have S_22 : SdS X 22 [(0, 20), (1, 0), (2, 0)] [] (L_X10_waited_22 Q) := by
    unfold L_X10_waited_22
    refine SdS.loop (fun k22 h22 => ?_)
    refine su_iload_n hC dX10_waited_22 rfl (by decide) (?_ : SdS X 23 [(0, 20), (1, 0), (2, 0)] [0] _)
    refine su_aload_n hC 20 dX10_waited_23 rfl (by decide) (by decide) (?_ : SdS X 24 [(0, 20), (1, 0), (2, 0)] [20, 0] _)
    refine su_getF hC (ci := 10) (j := 38) (C := RX10) (T := TX10) (N := 45) rfl rfl (by decide) in_X10 wl_5_202 rfl dX10_waited_24 (?_ : SdS X 27 [(0, 20), (1, 0), (2, 0)] [0, 0] _)
    refine su_icmp_ge (tgt := 50) hC dX10_waited_27 rfl (?_ : SdS X 50 [(0, 20), (1, 0), (2, 0)] [] _) (?_ : SdS X 30 [(0, 20), (1, 0), (2, 0)] [] _)
    · refine su_aload_n hC 20 dX10_waited_50 rfl (by decide) (by decide) (?_ : SdS X 51 [(0, 20), (1, 0), (2, 0)] [20] _)
      refine su_iload_n hC dX10_waited_51 rfl (by decide) (?_ : SdS X 52 [(0, 20), (1, 0), (2, 0)] [0, 20] _)
      refine su_inv0 (τ := []) (τr := [0]) (ci := 10) (q := (RX10, TX10, 45)) hC WG (M_X10_good _) rfl rfl rfl rfl  rfl rfl wl_7_171 wl_7_173 wp_105 wl_1_10 wl_7_174 hd_X10_good (by rw [e3]; decide) (by decide) dX10_waited_52 (?_ : SdS X 55 [(0, 20), (1, 0), (2, 0)] [0] _)
      exact su_ireturn hC hT dX10_waited_55
    · refine su_iload_n hC dX10_waited_30 rfl (by decide) (?_ : SdS X 31 [(0, 20), (1, 0), (2, 0)] [0] _)
      refine su_aload_n hC 20 dX10_waited_31 rfl (by decide) (by decide) (?_ : SdS X 32 [(0, 20), (1, 0), (2, 0)] [20, 0] _)
      refine su_getR hC (ci := 10) (j := 32) (C := RX10) (T := TX10) (N := 45) rfl rfl (by decide) in_X10 wl_5_196 rfl dX10_waited_32 (?_ : SdS X 35 [(0, 20), (1, 0), (2, 0)] [100, 0] _)
      refine su_bipush hC dX10_waited_35 (by decide) (?_ : SdS X 37 [(0, 20), (1, 0), (2, 0)] [0, 100, 0] _)
      refine su_iload_n hC dX10_waited_37 rfl (by decide) (?_ : SdS X 38 [(0, 20), (1, 0), (2, 0)] [0, 0, 100, 0] _)
      refine su_imul hC dX10_waited_38 (?_ : SdS X 39 [(0, 20), (1, 0), (2, 0)] [0, 100, 0] _)
      refine su_iconst hC dX10_waited_39 ⟨by decide, by decide⟩ (?_ : SdS X 40 [(0, 20), (1, 0), (2, 0)] [0, 0, 100, 0] _)
      refine su_iadd hC dX10_waited_40 (?_ : SdS X 41 [(0, 20), (1, 0), (2, 0)] [0, 100, 0] _)
      refine su_iaload hC dX10_waited_41 (?_ : SdS X 42 [(0, 20), (1, 0), (2, 0)] [0, 0] _)
      refine su_iadd hC dX10_waited_42 (?_ : SdS X 43 [(0, 20), (1, 0), (2, 0)] [0] _)
      refine su_istore_n (Γ' := [(0, 20), (1, 0), (2, 0)]) hC dX10_waited_43 rfl (by rw [e2]; decide) (by decide) (?_ : SdS X 44 [(0, 20), (1, 0), (2, 0)] [] _)
      refine su_iinc (Γ' := [(0, 20), (1, 0), (2, 0)]) hC dX10_waited_44 (by decide) (by rw [e2]; decide) (by decide) (?_ : SdS X 47 [(0, 20), (1, 0), (2, 0)] [] _)
      refine su_goto (tgt := 22) hC dX10_waited_47 rfl (?_ : SdS X 22 [(0, 20), (1, 0), (2, 0)] [] _)
      exact SdS.weak (by decide) h22
  refine (?_ : SdS X 0 [(0, 20)] [] (E_X10_waited Q))
  unfold E_X10_waited
  refine su_aload_n hC 20 dX10_waited_0 rfl (by decide) (by decide) (?_ : SdS X 1 [(0, 20)] [20] _)
  refine su_iconst hC dX10_waited_1 ⟨by decide, by decide⟩ (?_ : SdS X 2 [(0, 20)] [0, 20] _)
  refine su_putF hC (ci := 10) (j := 0) (C := RX10) (T := TX10) (N := 45) tyX10 tyX10_ok nmX10 rfl rfl (by decide) in_X10 rfl rfl wl_5_164 rfl dX10_waited_2 (?_ : SdS X 5 [(0, 20)] [] _)
  refine su_aload_n hC 20 dX10_waited_5 rfl (by decide) (by decide) (?_ : SdS X 6 [(0, 20)] [20] _)
  refine su_getR hC (ci := 10) (j := 3) (C := RX10) (T := TX10) (N := 45) rfl rfl (by decide) in_X10 wl_5_167 rfl dX10_waited_6 (?_ : SdS X 9 [(0, 20)] [19] _)
  refine su_ifnonnull (tgt := 18) hC (by decide) dX10_waited_9 rfl (?_ : SdS X 18 [(0, 20)] [] _) (?_ : SdS X 12 [(0, 20)] [] _)
  · refine su_iconst hC dX10_waited_18 ⟨by decide, by decide⟩ (?_ : SdS X 19 [(0, 20)] [0] _)
    refine su_istore_n (Γ' := [(0, 20), (1, 0)]) hC dX10_waited_19 rfl (by rw [e2]; decide) (by decide) (?_ : SdS X 20 [(0, 20), (1, 0)] [] _)
    refine su_iconst hC dX10_waited_20 ⟨by decide, by decide⟩ (?_ : SdS X 21 [(0, 20), (1, 0)] [0] _)
    refine su_istore_n (Γ' := [(0, 20), (1, 0), (2, 0)]) hC dX10_waited_21 rfl (by rw [e2]; decide) (by decide) (?_ : SdS X 22 [(0, 20), (1, 0), (2, 0)] [] _)
    exact SdS.weak (by decide) (S_22)
  · refine su_aload_n hC 20 dX10_waited_12 rfl (by decide) (by decide) (?_ : SdS X 13 [(0, 20)] [20] _)
    refine su_iconst hC dX10_waited_13 ⟨by decide, by decide⟩ (?_ : SdS X 14 [(0, 20)] [0, 20] _)
    refine su_inv0 (τ := []) (τr := [0]) (ci := 10) (q := (RX10, TX10, 45)) hC WG (M_X10_refused _) rfl rfl rfl rfl  rfl rfl wl_6_72 wl_6_74 wp_63 wl_1_10 wl_6_75 hd_X10_refused (by rw [e3]; decide) (by decide) dX10_waited_14 (?_ : SdS X 17 [(0, 20)] [0] _)
    exact su_ireturn hC hT dX10_waited_17
theorem hd_X10_where : yX10_where.cls ≠ "java/lang/invoke/MethodHandle" ∧ yX10_where.cls ≠ "java/lang/invoke/VarHandle" ∧ (parseMethodDescriptor yX10_where.desc).map (fun d => d.parameters.length) = some 0 := by decide +kernel
set_option maxRecDepth 100000 in
set_option maxHeartbeats 4000000 in
theorem M_X10_where (l : Launch) : MtS l yX10_where (Cond.code yX10_where cX10_where 1 (some .int) :: WALL) { frames := 0, cells := 0, slots := 0, locals := 0 } [20] (some 0) T_X10_where := by
  refine MtS.mk (B := E_X10_where) (by decide +kernel) (by decide) (fun _ _ _ hh => hh) ?_
  intro X Q e1 e2 e3 hC hN hT
  subst e1
  have hC : CF X cX10_where RX10 WALL := hC
  refine (?_ : SdS X 0 [(0, 20)] [] (E_X10_where Q))
  unfold E_X10_where
  refine su_aload_n hC 20 dX10_where_0 rfl (by decide) (by decide) (?_ : SdS X 1 [(0, 20)] [20] _)
  refine su_iconst hC dX10_where_1 ⟨by decide, by decide⟩ (?_ : SdS X 2 [(0, 20)] [0, 20] _)
  refine su_putF hC (ci := 10) (j := 0) (C := RX10) (T := TX10) (N := 45) tyX10 tyX10_ok nmX10 rfl rfl (by decide) in_X10 rfl rfl wl_5_164 rfl dX10_where_2 (?_ : SdS X 5 [(0, 20)] [] _)
  refine su_aload_n hC 20 dX10_where_5 rfl (by decide) (by decide) (?_ : SdS X 6 [(0, 20)] [20] _)
  refine su_getF hC (ci := 10) (j := 2) (C := RX10) (T := TX10) (N := 45) rfl rfl (by decide) in_X10 wl_5_166 rfl dX10_where_6 (?_ : SdS X 9 [(0, 20)] [0] _)
  exact su_ireturn hC hT dX10_where_9
theorem hd_X10_widen : yX10_widen.cls ≠ "java/lang/invoke/MethodHandle" ∧ yX10_widen.cls ≠ "java/lang/invoke/VarHandle" ∧ (parseMethodDescriptor yX10_widen.desc).map (fun d => d.parameters.length) = some 3 := by decide +kernel
set_option maxRecDepth 100000 in
set_option maxHeartbeats 4000000 in
theorem M_X10_widen (l : Launch) : MtS l yX10_widen (Cond.code yX10_widen cX10_widen 5 (some .boolean) :: WALL) { frames := 8, cells := 0, slots := 0, locals := 195 } [20, 0, 0, 0] (some 0) T_X10_widen := by
  refine MtS.mk (B := E_X10_widen) (by decide +kernel) (by decide) (fun _ _ _ hh => hh) ?_
  intro X Q e1 e2 e3 hC hN hT
  subst e1
  have hC : CF X cX10_widen RX10 WALL := hC
  have S_33 : SdS X 33 [(0, 20), (1, 0), (2, 0), (3, 0)] [] (B_X10_widen_33 Q) := by
    unfold B_X10_widen_33
    refine su_aload_n hC 20 dX10_widen_33 rfl (by decide) (by decide) (?_ : SdS X 34 [(0, 20), (1, 0), (2, 0), (3, 0)] [20] _)
    refine su_iconst hC dX10_widen_34 ⟨by decide, by decide⟩ (?_ : SdS X 35 [(0, 20), (1, 0), (2, 0), (3, 0)] [0, 20] _)
    refine su_inv0 (τ := []) (τr := [0]) (ci := 10) (q := (RX10, TX10, 45)) hC WG (M_X10_denied _) rfl rfl rfl rfl  rfl rfl wl_8_71 wl_8_73 wp_124 wl_1_10 wl_8_74 hd_X10_denied (by rw [e3]; decide) (by decide) dX10_widen_35 (?_ : SdS X 38 [(0, 20), (1, 0), (2, 0), (3, 0)] [0] _)
    exact su_zreturn hC hT dX10_widen_38
  have S_70 : SdS X 70 [(0, 20), (1, 0), (2, 0), (3, 0)] [] (B_X10_widen_70 Q) := by
    unfold B_X10_widen_70
    refine su_aload_n hC 20 dX10_widen_70 rfl (by decide) (by decide) (?_ : SdS X 71 [(0, 20), (1, 0), (2, 0), (3, 0)] [20] _)
    refine su_iconst hC dX10_widen_71 ⟨by decide, by decide⟩ (?_ : SdS X 72 [(0, 20), (1, 0), (2, 0), (3, 0)] [0, 20] _)
    refine su_inv0 (τ := []) (τr := [0]) (ci := 10) (q := (RX10, TX10, 45)) hC WG (M_X10_denied _) rfl rfl rfl rfl  rfl rfl wl_8_71 wl_8_73 wp_124 wl_1_10 wl_8_74 hd_X10_denied (by rw [e3]; decide) (by decide) dX10_widen_72 (?_ : SdS X 75 [(0, 20), (1, 0), (2, 0), (3, 0)] [0] _)
    exact su_zreturn hC hT dX10_widen_75
  have S_155 : SdS X 155 [(0, 20), (1, 0), (2, 0), (3, 0), (4, 0)] [0, 0, 100] (B_X10_widen_155 Q) := by
    unfold B_X10_widen_155
    refine su_iastore hC dX10_widen_155 (?_ : SdS X 156 [(0, 20), (1, 0), (2, 0), (3, 0), (4, 0)] [] _)
    refine su_aload_n hC 20 dX10_widen_156 rfl (by decide) (by decide) (?_ : SdS X 157 [(0, 20), (1, 0), (2, 0), (3, 0), (4, 0)] [20] _)
    refine su_inv0v (τ := []) (τr := []) (ci := 10) (q := (RX10, TX10, 45)) hC WG (M_X10_dawns _) rfl rfl rfl rfl  rfl rfl wl_7_87 wl_7_89 wp_86 wl_1_10 wl_7_90 hd_X10_dawns (by rw [e3]; decide) (by decide) dX10_widen_157 (?_ : SdS X 160 [(0, 20), (1, 0), (2, 0), (3, 0), (4, 0)] [] _)
    refine su_aload_n hC 20 dX10_widen_160 rfl (by decide) (by decide) (?_ : SdS X 161 [(0, 20), (1, 0), (2, 0), (3, 0), (4, 0)] [20] _)
    refine su_inv0 (τ := []) (τr := []) (ci := 10) (q := (RX10, TX10, 45)) hC WG (M_X10_granted _) rfl rfl rfl rfl  rfl rfl wl_8_75 wl_8_77 wp_125 wl_1_10 wl_8_78 hd_X10_granted (by rw [e3]; decide) (by decide) dX10_widen_161 (?_ : SdS X 164 [(0, 20), (1, 0), (2, 0), (3, 0), (4, 0)] [0] _)
    exact su_zreturn hC hT dX10_widen_164
  have S_120 : SdS X 120 [(0, 20), (1, 0), (2, 0), (3, 0), (4, 0)] [0, 0, 100] (B_X10_widen_120 Q) := by
    unfold B_X10_widen_120
    refine su_iastore hC dX10_widen_120 (?_ : SdS X 121 [(0, 20), (1, 0), (2, 0), (3, 0), (4, 0)] [] _)
    refine su_aload_n hC 20 dX10_widen_121 rfl (by decide) (by decide) (?_ : SdS X 122 [(0, 20), (1, 0), (2, 0), (3, 0), (4, 0)] [20] _)
    refine su_getR hC (ci := 10) (j := 16) (C := RX10) (T := TX10) (N := 45) rfl rfl (by decide) in_X10 wl_5_180 rfl dX10_widen_122 (?_ : SdS X 125 [(0, 20), (1, 0), (2, 0), (3, 0), (4, 0)] [100] _)
    refine su_iload hC dX10_widen_125 (by decide) (?_ : SdS X 127 [(0, 20), (1, 0), (2, 0), (3, 0), (4, 0)] [0, 100] _)
    refine su_iconst hC dX10_widen_127 ⟨by decide, by decide⟩ (?_ : SdS X 128 [(0, 20), (1, 0), (2, 0), (3, 0), (4, 0)] [0, 0, 100] _)
    refine su_iadd hC dX10_widen_128 (?_ : SdS X 129 [(0, 20), (1, 0), (2, 0), (3, 0), (4, 0)] [0, 100] _)
    refine su_iload_n hC dX10_widen_129 rfl (by decide) (?_ : SdS X 130 [(0, 20), (1, 0), (2, 0), (3, 0), (4, 0)] [0, 0, 100] _)
    refine su_aload_n hC 20 dX10_widen_130 rfl (by decide) (by decide) (?_ : SdS X 131 [(0, 20), (1, 0), (2, 0), (3, 0), (4, 0)] [20, 0, 0, 100] _)
    refine su_getR hC (ci := 10) (j := 16) (C := RX10) (T := TX10) (N := 45) rfl rfl (by decide) in_X10 wl_5_180 rfl dX10_widen_131 (?_ : SdS X 134 [(0, 20), (1, 0), (2, 0), (3, 0), (4, 0)] [100, 0, 0, 100] _)
    refine su_iload hC dX10_widen_134 (by decide) (?_ : SdS X 136 [(0, 20), (1, 0), (2, 0), (3, 0), (4, 0)] [0, 100, 0, 0, 100] _)
    refine su_iconst hC dX10_widen_136 ⟨by decide, by decide⟩ (?_ : SdS X 137 [(0, 20), (1, 0), (2, 0), (3, 0), (4, 0)] [0, 0, 100, 0, 0, 100] _)
    refine su_iadd hC dX10_widen_137 (?_ : SdS X 138 [(0, 20), (1, 0), (2, 0), (3, 0), (4, 0)] [0, 100, 0, 0, 100] _)
    refine su_iaload hC dX10_widen_138 (?_ : SdS X 139 [(0, 20), (1, 0), (2, 0), (3, 0), (4, 0)] [0, 0, 0, 100] _)
    refine su_icmp_le (tgt := 146) hC dX10_widen_139 rfl (?_ : SdS X 146 [(0, 20), (1, 0), (2, 0), (3, 0), (4, 0)] [0, 100] _) (?_ : SdS X 142 [(0, 20), (1, 0), (2, 0), (3, 0), (4, 0)] [0, 100] _)
    · refine su_aload_n hC 20 dX10_widen_146 rfl (by decide) (by decide) (?_ : SdS X 147 [(0, 20), (1, 0), (2, 0), (3, 0), (4, 0)] [20, 0, 100] _)
      refine su_getR hC (ci := 10) (j := 16) (C := RX10) (T := TX10) (N := 45) rfl rfl (by decide) in_X10 wl_5_180 rfl dX10_widen_147 (?_ : SdS X 150 [(0, 20), (1, 0), (2, 0), (3, 0), (4, 0)] [100, 0, 100] _)
      refine su_iload hC dX10_widen_150 (by decide) (?_ : SdS X 152 [(0, 20), (1, 0), (2, 0), (3, 0), (4, 0)] [0, 100, 0, 100] _)
      refine su_iconst hC dX10_widen_152 ⟨by decide, by decide⟩ (?_ : SdS X 153 [(0, 20), (1, 0), (2, 0), (3, 0), (4, 0)] [0, 0, 100, 0, 100] _)
      refine su_iadd hC dX10_widen_153 (?_ : SdS X 154 [(0, 20), (1, 0), (2, 0), (3, 0), (4, 0)] [0, 100, 0, 100] _)
      refine su_iaload hC dX10_widen_154 (?_ : SdS X 155 [(0, 20), (1, 0), (2, 0), (3, 0), (4, 0)] [0, 0, 100] _)
      exact SdS.weak (by decide) (S_155)
    · refine su_iload_n hC dX10_widen_142 rfl (by decide) (?_ : SdS X 143 [(0, 20), (1, 0), (2, 0), (3, 0), (4, 0)] [0, 0, 100] _)
      refine su_goto (tgt := 155) hC dX10_widen_143 rfl (?_ : SdS X 155 [(0, 20), (1, 0), (2, 0), (3, 0), (4, 0)] [0, 0, 100] _)
      exact SdS.weak (by decide) (S_155)
  have S_76 : SdS X 76 [(0, 20), (1, 0), (2, 0), (3, 0)] [] (B_X10_widen_76 Q) := by
    unfold B_X10_widen_76
    refine su_aload_n hC 20 dX10_widen_76 rfl (by decide) (by decide) (?_ : SdS X 77 [(0, 20), (1, 0), (2, 0), (3, 0)] [20] _)
    refine su_inv0v (τ := []) (τr := []) (ci := 10) (q := (RX10, TX10, 45)) hC WG (M_X10_keeps _) rfl rfl rfl rfl  rfl rfl wl_8_170 wl_8_172 wp_130 wl_1_10 wl_8_173 hd_X10_keeps (by rw [e3]; decide) (by decide) dX10_widen_77 (?_ : SdS X 80 [(0, 20), (1, 0), (2, 0), (3, 0)] [] _)
    refine su_bipush hC dX10_widen_80 (by decide) (?_ : SdS X 82 [(0, 20), (1, 0), (2, 0), (3, 0)] [0] _)
    refine su_iload_n hC dX10_widen_82 rfl (by decide) (?_ : SdS X 83 [(0, 20), (1, 0), (2, 0), (3, 0)] [0, 0] _)
    refine su_imul hC dX10_widen_83 (?_ : SdS X 84 [(0, 20), (1, 0), (2, 0), (3, 0)] [0] _)
    refine su_istore (Γ' := [(0, 20), (1, 0), (2, 0), (3, 0), (4, 0)]) hC dX10_widen_84 (by rw [e2]; decide) (by decide) (?_ : SdS X 86 [(0, 20), (1, 0), (2, 0), (3, 0), (4, 0)] [] _)
    refine su_aload_n hC 20 dX10_widen_86 rfl (by decide) (by decide) (?_ : SdS X 87 [(0, 20), (1, 0), (2, 0), (3, 0), (4, 0)] [20] _)
    refine su_getR hC (ci := 10) (j := 16) (C := RX10) (T := TX10) (N := 45) rfl rfl (by decide) in_X10 wl_5_180 rfl dX10_widen_87 (?_ : SdS X 90 [(0, 20), (1, 0), (2, 0), (3, 0), (4, 0)] [100] _)
    refine su_iload hC dX10_widen_90 (by decide) (?_ : SdS X 92 [(0, 20), (1, 0), (2, 0), (3, 0), (4, 0)] [0, 100] _)
    refine su_iconst hC dX10_widen_92 ⟨by decide, by decide⟩ (?_ : SdS X 93 [(0, 20), (1, 0), (2, 0), (3, 0), (4, 0)] [0, 0, 100] _)
    refine su_iadd hC dX10_widen_93 (?_ : SdS X 94 [(0, 20), (1, 0), (2, 0), (3, 0), (4, 0)] [0, 100] _)
    refine su_iload_n hC dX10_widen_94 rfl (by decide) (?_ : SdS X 95 [(0, 20), (1, 0), (2, 0), (3, 0), (4, 0)] [0, 0, 100] _)
    refine su_aload_n hC 20 dX10_widen_95 rfl (by decide) (by decide) (?_ : SdS X 96 [(0, 20), (1, 0), (2, 0), (3, 0), (4, 0)] [20, 0, 0, 100] _)
    refine su_getR hC (ci := 10) (j := 16) (C := RX10) (T := TX10) (N := 45) rfl rfl (by decide) in_X10 wl_5_180 rfl dX10_widen_96 (?_ : SdS X 99 [(0, 20), (1, 0), (2, 0), (3, 0), (4, 0)] [100, 0, 0, 100] _)
    refine su_iload hC dX10_widen_99 (by decide) (?_ : SdS X 101 [(0, 20), (1, 0), (2, 0), (3, 0), (4, 0)] [0, 100, 0, 0, 100] _)
    refine su_iconst hC dX10_widen_101 ⟨by decide, by decide⟩ (?_ : SdS X 102 [(0, 20), (1, 0), (2, 0), (3, 0), (4, 0)] [0, 0, 100, 0, 0, 100] _)
    refine su_iadd hC dX10_widen_102 (?_ : SdS X 103 [(0, 20), (1, 0), (2, 0), (3, 0), (4, 0)] [0, 100, 0, 0, 100] _)
    refine su_iaload hC dX10_widen_103 (?_ : SdS X 104 [(0, 20), (1, 0), (2, 0), (3, 0), (4, 0)] [0, 0, 0, 100] _)
    refine su_icmp_le (tgt := 111) hC dX10_widen_104 rfl (?_ : SdS X 111 [(0, 20), (1, 0), (2, 0), (3, 0), (4, 0)] [0, 100] _) (?_ : SdS X 107 [(0, 20), (1, 0), (2, 0), (3, 0), (4, 0)] [0, 100] _)
    · refine su_aload_n hC 20 dX10_widen_111 rfl (by decide) (by decide) (?_ : SdS X 112 [(0, 20), (1, 0), (2, 0), (3, 0), (4, 0)] [20, 0, 100] _)
      refine su_getR hC (ci := 10) (j := 16) (C := RX10) (T := TX10) (N := 45) rfl rfl (by decide) in_X10 wl_5_180 rfl dX10_widen_112 (?_ : SdS X 115 [(0, 20), (1, 0), (2, 0), (3, 0), (4, 0)] [100, 0, 100] _)
      refine su_iload hC dX10_widen_115 (by decide) (?_ : SdS X 117 [(0, 20), (1, 0), (2, 0), (3, 0), (4, 0)] [0, 100, 0, 100] _)
      refine su_iconst hC dX10_widen_117 ⟨by decide, by decide⟩ (?_ : SdS X 118 [(0, 20), (1, 0), (2, 0), (3, 0), (4, 0)] [0, 0, 100, 0, 100] _)
      refine su_iadd hC dX10_widen_118 (?_ : SdS X 119 [(0, 20), (1, 0), (2, 0), (3, 0), (4, 0)] [0, 100, 0, 100] _)
      refine su_iaload hC dX10_widen_119 (?_ : SdS X 120 [(0, 20), (1, 0), (2, 0), (3, 0), (4, 0)] [0, 0, 100] _)
      exact SdS.weak (by decide) (S_120)
    · refine su_iload_n hC dX10_widen_107 rfl (by decide) (?_ : SdS X 108 [(0, 20), (1, 0), (2, 0), (3, 0), (4, 0)] [0, 0, 100] _)
      refine su_goto (tgt := 120) hC dX10_widen_108 rfl (?_ : SdS X 120 [(0, 20), (1, 0), (2, 0), (3, 0), (4, 0)] [0, 0, 100] _)
      exact SdS.weak (by decide) (S_120)
  refine (?_ : SdS X 0 [(0, 20), (1, 0), (2, 0), (3, 0)] [] (E_X10_widen Q))
  unfold E_X10_widen
  refine su_aload_n hC 20 dX10_widen_0 rfl (by decide) (by decide) (?_ : SdS X 1 [(0, 20), (1, 0), (2, 0), (3, 0)] [20] _)
  refine su_iconst hC dX10_widen_1 ⟨by decide, by decide⟩ (?_ : SdS X 2 [(0, 20), (1, 0), (2, 0), (3, 0)] [0, 20] _)
  refine su_putF hC (ci := 10) (j := 0) (C := RX10) (T := TX10) (N := 45) tyX10 tyX10_ok nmX10 rfl rfl (by decide) in_X10 rfl rfl wl_5_164 rfl dX10_widen_2 (?_ : SdS X 5 [(0, 20), (1, 0), (2, 0), (3, 0)] [] _)
  refine su_aload_n hC 20 dX10_widen_5 rfl (by decide) (by decide) (?_ : SdS X 6 [(0, 20), (1, 0), (2, 0), (3, 0)] [20] _)
  refine su_iload_n hC dX10_widen_6 rfl (by decide) (?_ : SdS X 7 [(0, 20), (1, 0), (2, 0), (3, 0)] [0, 20] _)
  refine su_inv0 (τ := []) (τr := [0]) (ci := 10) (q := (RX10, TX10, 45)) hC WG (M_X10_isGate _) rfl rfl rfl rfl  rfl rfl wl_7_187 wl_7_189 wp_106 wl_1_10 wl_7_190 hd_X10_isGate (by rw [e3]; decide) (by decide) dX10_widen_7 (?_ : SdS X 10 [(0, 20), (1, 0), (2, 0), (3, 0)] [0] _)
  refine su_if_ne (tgt := 19) hC dX10_widen_10 rfl (?_ : SdS X 19 [(0, 20), (1, 0), (2, 0), (3, 0)] [] _) (?_ : SdS X 13 [(0, 20), (1, 0), (2, 0), (3, 0)] [] _)
  · refine su_iload_n hC dX10_widen_19 rfl (by decide) (?_ : SdS X 20 [(0, 20), (1, 0), (2, 0), (3, 0)] [0] _)
    refine su_invs (τ := []) (τs := [0]) hC false "" WG (M_X10_isSize _) rfl rfl rfl rfl wl_8_119 wl_8_120 wl_1_10 wl_8_121 hd_X10_isSize (by rw [e3]; decide) (by decide) dX10_widen_20 (?_ : SdS X 23 [(0, 20), (1, 0), (2, 0), (3, 0)] [0] _)
    refine su_if_eq (tgt := 33) hC dX10_widen_23 rfl (?_ : SdS X 33 [(0, 20), (1, 0), (2, 0), (3, 0)] [] _) (?_ : SdS X 26 [(0, 20), (1, 0), (2, 0), (3, 0)] [] _)
    · exact SdS.weak (by decide) (S_33)
    · refine su_iload_n hC dX10_widen_26 rfl (by decide) (?_ : SdS X 27 [(0, 20), (1, 0), (2, 0), (3, 0)] [0] _)
      refine su_invs (τ := []) (τs := [0]) hC false "" WG (M_X10_isSize _) rfl rfl rfl rfl wl_8_119 wl_8_120 wl_1_10 wl_8_121 hd_X10_isSize (by rw [e3]; decide) (by decide) dX10_widen_27 (?_ : SdS X 30 [(0, 20), (1, 0), (2, 0), (3, 0)] [0] _)
      refine su_if_ne (tgt := 39) hC dX10_widen_30 rfl (?_ : SdS X 39 [(0, 20), (1, 0), (2, 0), (3, 0)] [] _) (?_ : SdS X 33 [(0, 20), (1, 0), (2, 0), (3, 0)] [] _)
      · refine su_aload_n hC 20 dX10_widen_39 rfl (by decide) (by decide) (?_ : SdS X 40 [(0, 20), (1, 0), (2, 0), (3, 0)] [20] _)
        refine su_iload_n hC dX10_widen_40 rfl (by decide) (?_ : SdS X 41 [(0, 20), (1, 0), (2, 0), (3, 0)] [0, 20] _)
        refine su_bipush hC dX10_widen_41 (by decide) (?_ : SdS X 43 [(0, 20), (1, 0), (2, 0), (3, 0)] [0, 0, 20] _)
        refine su_inv0 (τ := []) (τr := [0, 0]) (ci := 10) (q := (RX10, TX10, 45)) hC WG (M_X10_of _) rfl rfl rfl rfl  rfl rfl wl_7_131 wl_7_133 wp_96 wl_1_10 wl_7_134 hd_X10_of (by rw [e3]; decide) (by decide) dX10_widen_43 (?_ : SdS X 46 [(0, 20), (1, 0), (2, 0), (3, 0)] [0] _)
        refine su_iconst hC dX10_widen_46 ⟨by decide, by decide⟩ (?_ : SdS X 47 [(0, 20), (1, 0), (2, 0), (3, 0)] [0, 0] _)
        refine su_icmp_eq (tgt := 70) hC dX10_widen_47 rfl (?_ : SdS X 70 [(0, 20), (1, 0), (2, 0), (3, 0)] [] _) (?_ : SdS X 50 [(0, 20), (1, 0), (2, 0), (3, 0)] [] _)
        · exact SdS.weak (by decide) (S_70)
        · refine su_iload_n hC dX10_widen_50 rfl (by decide) (?_ : SdS X 51 [(0, 20), (1, 0), (2, 0), (3, 0)] [0] _)
          refine su_aload_n hC 20 dX10_widen_51 rfl (by decide) (by decide) (?_ : SdS X 52 [(0, 20), (1, 0), (2, 0), (3, 0)] [20, 0] _)
          refine su_iload_n hC dX10_widen_52 rfl (by decide) (?_ : SdS X 53 [(0, 20), (1, 0), (2, 0), (3, 0)] [0, 20, 0] _)
          refine su_iconst hC dX10_widen_53 ⟨by decide, by decide⟩ (?_ : SdS X 54 [(0, 20), (1, 0), (2, 0), (3, 0)] [0, 0, 20, 0] _)
          refine su_inv0 (τ := [0]) (τr := [0, 0]) (ci := 10) (q := (RX10, TX10, 45)) hC WG (M_X10_of _) rfl rfl rfl rfl  rfl rfl wl_7_131 wl_7_133 wp_96 wl_1_10 wl_7_134 hd_X10_of (by rw [e3]; decide) (by decide) dX10_widen_54 (?_ : SdS X 57 [(0, 20), (1, 0), (2, 0), (3, 0)] [0, 0] _)
          refine su_icmp_gt (tgt := 76) hC dX10_widen_57 rfl (?_ : SdS X 76 [(0, 20), (1, 0), (2, 0), (3, 0)] [] _) (?_ : SdS X 60 [(0, 20), (1, 0), (2, 0), (3, 0)] [] _)
          · exact SdS.weak (by decide) (S_76)
          · refine su_iload_n hC dX10_widen_60 rfl (by decide) (?_ : SdS X 61 [(0, 20), (1, 0), (2, 0), (3, 0)] [0] _)
            refine su_aload_n hC 20 dX10_widen_61 rfl (by decide) (by decide) (?_ : SdS X 62 [(0, 20), (1, 0), (2, 0), (3, 0)] [20, 0] _)
            refine su_iload_n hC dX10_widen_62 rfl (by decide) (?_ : SdS X 63 [(0, 20), (1, 0), (2, 0), (3, 0)] [0, 20, 0] _)
            refine su_iconst hC dX10_widen_63 ⟨by decide, by decide⟩ (?_ : SdS X 64 [(0, 20), (1, 0), (2, 0), (3, 0)] [0, 0, 20, 0] _)
            refine su_inv0 (τ := [0]) (τr := [0, 0]) (ci := 10) (q := (RX10, TX10, 45)) hC WG (M_X10_of _) rfl rfl rfl rfl  rfl rfl wl_7_131 wl_7_133 wp_96 wl_1_10 wl_7_134 hd_X10_of (by rw [e3]; decide) (by decide) dX10_widen_64 (?_ : SdS X 67 [(0, 20), (1, 0), (2, 0), (3, 0)] [0, 0] _)
            refine su_icmp_gt (tgt := 76) hC dX10_widen_67 rfl (?_ : SdS X 76 [(0, 20), (1, 0), (2, 0), (3, 0)] [] _) (?_ : SdS X 70 [(0, 20), (1, 0), (2, 0), (3, 0)] [] _)
            · exact SdS.weak (by decide) (S_76)
            · exact SdS.weak (by decide) (S_70)
      · exact SdS.weak (by decide) (S_33)
  · refine su_aload_n hC 20 dX10_widen_13 rfl (by decide) (by decide) (?_ : SdS X 14 [(0, 20), (1, 0), (2, 0), (3, 0)] [20] _)
    refine su_iconst hC dX10_widen_14 ⟨by decide, by decide⟩ (?_ : SdS X 15 [(0, 20), (1, 0), (2, 0), (3, 0)] [0, 20] _)
    refine su_inv0 (τ := []) (τr := [0]) (ci := 10) (q := (RX10, TX10, 45)) hC WG (M_X10_denied _) rfl rfl rfl rfl  rfl rfl wl_8_71 wl_8_73 wp_124 wl_1_10 wl_8_74 hd_X10_denied (by rw [e3]; decide) (by decide) dX10_widen_15 (?_ : SdS X 18 [(0, 20), (1, 0), (2, 0), (3, 0)] [0] _)
    exact su_zreturn hC hT dX10_widen_18
theorem hd_X10_worked : yX10_worked.cls ≠ "java/lang/invoke/MethodHandle" ∧ yX10_worked.cls ≠ "java/lang/invoke/VarHandle" ∧ (parseMethodDescriptor yX10_worked.desc).map (fun d => d.parameters.length) = some 1 := by decide +kernel
set_option maxRecDepth 100000 in
set_option maxHeartbeats 4000000 in
theorem M_X10_worked (l : Launch) : MtS l yX10_worked (Cond.code yX10_worked cX10_worked 2 (some .int) :: WALL) { frames := 1, cells := 0, slots := 0, locals := 21 } [20, 0] (some 0) T_X10_worked := by
  refine MtS.mk (B := E_X10_worked) (by decide +kernel) (by decide) (fun _ _ _ hh => hh) ?_
  intro X Q e1 e2 e3 hC hN hT
  subst e1
  have hC : CF X cX10_worked RX10 WALL := hC
  have S_35 : SdS X 35 [(0, 20), (1, 0)] [0] (B_X10_worked_35 Q) := by
    unfold B_X10_worked_35
    exact su_ireturn hC hT dX10_worked_35
  refine (?_ : SdS X 0 [(0, 20), (1, 0)] [] (E_X10_worked Q))
  unfold E_X10_worked
  refine su_aload_n hC 20 dX10_worked_0 rfl (by decide) (by decide) (?_ : SdS X 1 [(0, 20), (1, 0)] [20] _)
  refine su_iconst hC dX10_worked_1 ⟨by decide, by decide⟩ (?_ : SdS X 2 [(0, 20), (1, 0)] [0, 20] _)
  refine su_putF hC (ci := 10) (j := 0) (C := RX10) (T := TX10) (N := 45) tyX10 tyX10_ok nmX10 rfl rfl (by decide) in_X10 rfl rfl wl_5_164 rfl dX10_worked_2 (?_ : SdS X 5 [(0, 20), (1, 0)] [] _)
  refine su_aload_n hC 20 dX10_worked_5 rfl (by decide) (by decide) (?_ : SdS X 6 [(0, 20), (1, 0)] [20] _)
  refine su_iload_n hC dX10_worked_6 rfl (by decide) (?_ : SdS X 7 [(0, 20), (1, 0)] [0, 20] _)
  refine su_inv0 (τ := []) (τr := [0]) (ci := 10) (q := (RX10, TX10, 45)) hC WG (M_X10_isGate _) rfl rfl rfl rfl  rfl rfl wl_7_187 wl_7_189 wp_106 wl_1_10 wl_7_190 hd_X10_isGate (by rw [e3]; decide) (by decide) dX10_worked_7 (?_ : SdS X 10 [(0, 20), (1, 0)] [0] _)
  refine su_if_eq (tgt := 30) hC dX10_worked_10 rfl (?_ : SdS X 30 [(0, 20), (1, 0)] [] _) (?_ : SdS X 13 [(0, 20), (1, 0)] [] _)
  · refine su_aload_n hC 20 dX10_worked_30 rfl (by decide) (by decide) (?_ : SdS X 31 [(0, 20), (1, 0)] [20] _)
    refine su_iconst hC dX10_worked_31 ⟨by decide, by decide⟩ (?_ : SdS X 32 [(0, 20), (1, 0)] [0, 20] _)
    refine su_inv0 (τ := []) (τr := [0]) (ci := 10) (q := (RX10, TX10, 45)) hC WG (M_X10_refused _) rfl rfl rfl rfl  rfl rfl wl_6_72 wl_6_74 wp_63 wl_1_10 wl_6_75 hd_X10_refused (by rw [e3]; decide) (by decide) dX10_worked_32 (?_ : SdS X 35 [(0, 20), (1, 0)] [0] _)
    exact SdS.weak (by decide) (S_35)
  · refine su_aload_n hC 20 dX10_worked_13 rfl (by decide) (by decide) (?_ : SdS X 14 [(0, 20), (1, 0)] [20] _)
    refine su_aload_n hC 20 dX10_worked_14 rfl (by decide) (by decide) (?_ : SdS X 15 [(0, 20), (1, 0)] [20, 20] _)
    refine su_getR hC (ci := 10) (j := 32) (C := RX10) (T := TX10) (N := 45) rfl rfl (by decide) in_X10 wl_5_196 rfl dX10_worked_15 (?_ : SdS X 18 [(0, 20), (1, 0)] [100, 20] _)
    refine su_sipush hC dX10_worked_18 (by decide) (?_ : SdS X 21 [(0, 20), (1, 0)] [0, 100, 20] _)
    refine su_iload_n hC dX10_worked_21 rfl (by decide) (?_ : SdS X 22 [(0, 20), (1, 0)] [0, 0, 100, 20] _)
    refine su_iadd hC dX10_worked_22 (?_ : SdS X 23 [(0, 20), (1, 0)] [0, 100, 20] _)
    refine su_iaload hC dX10_worked_23 (?_ : SdS X 24 [(0, 20), (1, 0)] [0, 20] _)
    refine su_inv0 (τ := []) (τr := [0]) (ci := 10) (q := (RX10, TX10, 45)) hC WG (M_X10_good _) rfl rfl rfl rfl  rfl rfl wl_7_171 wl_7_173 wp_105 wl_1_10 wl_7_174 hd_X10_good (by rw [e3]; decide) (by decide) dX10_worked_24 (?_ : SdS X 27 [(0, 20), (1, 0)] [0] _)
    refine su_goto (tgt := 35) hC dX10_worked_27 rfl (?_ : SdS X 35 [(0, 20), (1, 0)] [0] _)
    exact SdS.weak (by decide) (S_35)
theorem wl_1_101 : Cond.fieldLink RX1 17 "NarrowRings$City" "gate" "[[I" ∈ WALL := tb1 (List.mem_of_getElem? (i := 101) rfl) rfl
theorem wl_1_99 : Cond.fieldLink RX1 11 "NarrowRings$City" "width" "[I" ∈ WALL := tb1 (List.mem_of_getElem? (i := 99) rfl) rfl
theorem wl_1_49 : Cond.fieldLink RX1 64 "NarrowRings$Thing" "wide" "[I" ∈ WALL := tb1 (List.mem_of_getElem? (i := 49) rfl) rfl
theorem wl_1_47 : Cond.fieldLink RX1 78 "NarrowRings$Thing" "length" "[I" ∈ WALL := tb1 (List.mem_of_getElem? (i := 47) rfl) rfl
theorem wl_1_51 : Cond.fieldLink RX1 81 "NarrowRings$Thing" "high" "[I" ∈ WALL := tb1 (List.mem_of_getElem? (i := 51) rfl) rfl
theorem hd_X1_meets : yX1_meets.cls ≠ "java/lang/invoke/MethodHandle" ∧ yX1_meets.cls ≠ "java/lang/invoke/VarHandle" ∧ (parseMethodDescriptor yX1_meets.desc).map (fun d => d.parameters.length) = some 3 := by decide +kernel
set_option maxRecDepth 100000 in
set_option maxHeartbeats 4000000 in
theorem M_X1_meets (l : Launch) : MtS l yX1_meets (Cond.code yX1_meets cX1_meets 9 (some .int) :: WALL) { frames := 0, cells := 0, slots := 0, locals := 0 } [11, 16, 0, 0] (some 0) T_X1_meets := by
  refine MtS.mk (B := E_X1_meets) (by decide +kernel) (by decide) (fun _ _ _ hh => hh) ?_
  intro X Q e1 e2 e3 hC hN hT
  subst e1
  have hC : CF X cX1_meets RX1 WALL := hC
  have S_127 : SdS X 127 [(0, 11), (1, 16), (2, 0), (3, 0), (4, 100), (5, 0), (6, 0), (7, 0), (8, 0)] [0] (B_X1_meets_127 Q) := by
    unfold B_X1_meets_127
    exact su_ireturn hC hT dX1_meets_127
  refine (?_ : SdS X 0 [(0, 11), (1, 16), (2, 0), (3, 0)] [] (E_X1_meets Q))
  unfold E_X1_meets
  refine su_aload_n hC 11 dX1_meets_0 rfl (by decide) (by decide) (?_ : SdS X 1 [(0, 11), (1, 16), (2, 0), (3, 0)] [11] _)
  refine su_getR hC (ci := 1) (j := 6) (C := RX1) (T := TX1) (N := 12) rfl rfl (by decide) in_X1 wl_1_101 rfl dX1_meets_1 (?_ : SdS X 4 [(0, 11), (1, 16), (2, 0), (3, 0)] [200] _)
  refine su_iload_n hC dX1_meets_4 rfl (by decide) (?_ : SdS X 5 [(0, 11), (1, 16), (2, 0), (3, 0)] [0, 200] _)
  refine su_aaload (e := 100) hC (List.mem_of_getElem? (i := 7) rfl) rfl rfl rfl dX1_meets_5 (?_ : SdS X 6 [(0, 11), (1, 16), (2, 0), (3, 0)] [100] _)
  refine su_astore (Γ' := [(0, 11), (1, 16), (2, 0), (3, 0), (4, 100)]) hC dX1_meets_6 (by decide) (by rw [e2]; decide) (by decide) (?_ : SdS X 8 [(0, 11), (1, 16), (2, 0), (3, 0), (4, 100)] [] _)
  refine su_aload_n hC 11 dX1_meets_8 rfl (by decide) (by decide) (?_ : SdS X 9 [(0, 11), (1, 16), (2, 0), (3, 0), (4, 100)] [11] _)
  refine su_getR hC (ci := 1) (j := 5) (C := RX1) (T := TX1) (N := 12) rfl rfl (by decide) in_X1 wl_1_99 rfl dX1_meets_9 (?_ : SdS X 12 [(0, 11), (1, 16), (2, 0), (3, 0), (4, 100)] [100] _)
  refine su_aload hC 100 dX1_meets_12 (by decide) (by decide) (?_ : SdS X 14 [(0, 11), (1, 16), (2, 0), (3, 0), (4, 100)] [100, 100] _)
  refine su_iconst hC dX1_meets_14 ⟨by decide, by decide⟩ (?_ : SdS X 15 [(0, 11), (1, 16), (2, 0), (3, 0), (4, 100)] [0, 100, 100] _)
  refine su_iaload hC dX1_meets_15 (?_ : SdS X 16 [(0, 11), (1, 16), (2, 0), (3, 0), (4, 100)] [0, 100] _)
  refine su_iaload hC dX1_meets_16 (?_ : SdS X 17 [(0, 11), (1, 16), (2, 0), (3, 0), (4, 100)] [0] _)
  refine su_istore (Γ' := [(0, 11), (1, 16), (2, 0), (3, 0), (4, 100), (5, 0)]) hC dX1_meets_17 (by rw [e2]; decide) (by decide) (?_ : SdS X 19 [(0, 11), (1, 16), (2, 0), (3, 0), (4, 100), (5, 0)] [] _)
  refine su_aload_n hC 11 dX1_meets_19 rfl (by decide) (by decide) (?_ : SdS X 20 [(0, 11), (1, 16), (2, 0), (3, 0), (4, 100), (5, 0)] [11] _)
  refine su_getR hC (ci := 1) (j := 5) (C := RX1) (T := TX1) (N := 12) rfl rfl (by decide) in_X1 wl_1_99 rfl dX1_meets_20 (?_ : SdS X 23 [(0, 11), (1, 16), (2, 0), (3, 0), (4, 100), (5, 0)] [100] _)
  refine su_aload hC 100 dX1_meets_23 (by decide) (by decide) (?_ : SdS X 25 [(0, 11), (1, 16), (2, 0), (3, 0), (4, 100), (5, 0)] [100, 100] _)
  refine su_iconst hC dX1_meets_25 ⟨by decide, by decide⟩ (?_ : SdS X 26 [(0, 11), (1, 16), (2, 0), (3, 0), (4, 100), (5, 0)] [0, 100, 100] _)
  refine su_iaload hC dX1_meets_26 (?_ : SdS X 27 [(0, 11), (1, 16), (2, 0), (3, 0), (4, 100), (5, 0)] [0, 100] _)
  refine su_iconst hC dX1_meets_27 ⟨by decide, by decide⟩ (?_ : SdS X 28 [(0, 11), (1, 16), (2, 0), (3, 0), (4, 100), (5, 0)] [0, 0, 100] _)
  refine su_iadd hC dX1_meets_28 (?_ : SdS X 29 [(0, 11), (1, 16), (2, 0), (3, 0), (4, 100), (5, 0)] [0, 100] _)
  refine su_iaload hC dX1_meets_29 (?_ : SdS X 30 [(0, 11), (1, 16), (2, 0), (3, 0), (4, 100), (5, 0)] [0] _)
  refine su_istore (Γ' := [(0, 11), (1, 16), (2, 0), (3, 0), (4, 100), (5, 0), (6, 0)]) hC dX1_meets_30 (by rw [e2]; decide) (by decide) (?_ : SdS X 32 [(0, 11), (1, 16), (2, 0), (3, 0), (4, 100), (5, 0), (6, 0)] [] _)
  refine su_aload_n hC 16 dX1_meets_32 rfl (by decide) (by decide) (?_ : SdS X 33 [(0, 11), (1, 16), (2, 0), (3, 0), (4, 100), (5, 0), (6, 0)] [16] _)
  refine su_getR hC (ci := 6) (j := 1) (C := RX6) (T := TX6) (N := 7) rfl rfl (by decide) in_X6 wl_1_49 rfl dX1_meets_33 (?_ : SdS X 36 [(0, 11), (1, 16), (2, 0), (3, 0), (4, 100), (5, 0), (6, 0)] [100] _)
  refine su_iload_n hC dX1_meets_36 rfl (by decide) (?_ : SdS X 37 [(0, 11), (1, 16), (2, 0), (3, 0), (4, 100), (5, 0), (6, 0)] [0, 100] _)
  refine su_iaload hC dX1_meets_37 (?_ : SdS X 38 [(0, 11), (1, 16), (2, 0), (3, 0), (4, 100), (5, 0), (6, 0)] [0] _)
  refine su_istore (Γ' := [(0, 11), (1, 16), (2, 0), (3, 0), (4, 100), (5, 0), (6, 0), (7, 0)]) hC dX1_meets_38 (by rw [e2]; decide) (by decide) (?_ : SdS X 40 [(0, 11), (1, 16), (2, 0), (3, 0), (4, 100), (5, 0), (6, 0), (7, 0)] [] _)
  refine su_aload_n hC 16 dX1_meets_40 rfl (by decide) (by decide) (?_ : SdS X 41 [(0, 11), (1, 16), (2, 0), (3, 0), (4, 100), (5, 0), (6, 0), (7, 0)] [16] _)
  refine su_getR hC (ci := 6) (j := 0) (C := RX6) (T := TX6) (N := 7) rfl rfl (by decide) in_X6 wl_1_47 rfl dX1_meets_41 (?_ : SdS X 44 [(0, 11), (1, 16), (2, 0), (3, 0), (4, 100), (5, 0), (6, 0), (7, 0)] [100] _)
  refine su_iload_n hC dX1_meets_44 rfl (by decide) (?_ : SdS X 45 [(0, 11), (1, 16), (2, 0), (3, 0), (4, 100), (5, 0), (6, 0), (7, 0)] [0, 100] _)
  refine su_iaload hC dX1_meets_45 (?_ : SdS X 46 [(0, 11), (1, 16), (2, 0), (3, 0), (4, 100), (5, 0), (6, 0), (7, 0)] [0] _)
  refine su_iload hC dX1_meets_46 (by decide) (?_ : SdS X 48 [(0, 11), (1, 16), (2, 0), (3, 0), (4, 100), (5, 0), (6, 0), (7, 0)] [0, 0] _)
  refine su_iadd hC dX1_meets_48 (?_ : SdS X 49 [(0, 11), (1, 16), (2, 0), (3, 0), (4, 100), (5, 0), (6, 0), (7, 0)] [0] _)
  refine su_istore (Γ' := [(0, 11), (1, 16), (2, 0), (3, 0), (4, 100), (5, 0), (6, 0), (7, 0), (8, 0)]) hC dX1_meets_49 (by rw [e2]; decide) (by decide) (?_ : SdS X 51 [(0, 11), (1, 16), (2, 0), (3, 0), (4, 100), (5, 0), (6, 0), (7, 0), (8, 0)] [] _)
  refine su_iload hC dX1_meets_51 (by decide) (?_ : SdS X 53 [(0, 11), (1, 16), (2, 0), (3, 0), (4, 100), (5, 0), (6, 0), (7, 0), (8, 0)] [0] _)
  refine su_iload hC dX1_meets_53 (by decide) (?_ : SdS X 55 [(0, 11), (1, 16), (2, 0), (3, 0), (4, 100), (5, 0), (6, 0), (7, 0), (8, 0)] [0, 0] _)
  refine su_icmp_le (tgt := 60) hC dX1_meets_55 rfl (?_ : SdS X 60 [(0, 11), (1, 16), (2, 0), (3, 0), (4, 100), (5, 0), (6, 0), (7, 0), (8, 0)] [] _) (?_ : SdS X 58 [(0, 11), (1, 16), (2, 0), (3, 0), (4, 100), (5, 0), (6, 0), (7, 0), (8, 0)] [] _)
  · refine su_iload hC dX1_meets_60 (by decide) (?_ : SdS X 62 [(0, 11), (1, 16), (2, 0), (3, 0), (4, 100), (5, 0), (6, 0), (7, 0), (8, 0)] [0] _)
    refine su_aload hC 100 dX1_meets_62 (by decide) (by decide) (?_ : SdS X 64 [(0, 11), (1, 16), (2, 0), (3, 0), (4, 100), (5, 0), (6, 0), (7, 0), (8, 0)] [100, 0] _)
    refine su_iconst hC dX1_meets_64 ⟨by decide, by decide⟩ (?_ : SdS X 65 [(0, 11), (1, 16), (2, 0), (3, 0), (4, 100), (5, 0), (6, 0), (7, 0), (8, 0)] [0, 100, 0] _)
    refine su_iaload hC dX1_meets_65 (?_ : SdS X 66 [(0, 11), (1, 16), (2, 0), (3, 0), (4, 100), (5, 0), (6, 0), (7, 0), (8, 0)] [0, 0] _)
    refine su_icmp_le (tgt := 71) hC dX1_meets_66 rfl (?_ : SdS X 71 [(0, 11), (1, 16), (2, 0), (3, 0), (4, 100), (5, 0), (6, 0), (7, 0), (8, 0)] [] _) (?_ : SdS X 69 [(0, 11), (1, 16), (2, 0), (3, 0), (4, 100), (5, 0), (6, 0), (7, 0), (8, 0)] [] _)
    · refine su_aload_n hC 16 dX1_meets_71 rfl (by decide) (by decide) (?_ : SdS X 72 [(0, 11), (1, 16), (2, 0), (3, 0), (4, 100), (5, 0), (6, 0), (7, 0), (8, 0)] [16] _)
      refine su_getR hC (ci := 6) (j := 2) (C := RX6) (T := TX6) (N := 7) rfl rfl (by decide) in_X6 wl_1_51 rfl dX1_meets_72 (?_ : SdS X 75 [(0, 11), (1, 16), (2, 0), (3, 0), (4, 100), (5, 0), (6, 0), (7, 0), (8, 0)] [100] _)
      refine su_iload_n hC dX1_meets_75 rfl (by decide) (?_ : SdS X 76 [(0, 11), (1, 16), (2, 0), (3, 0), (4, 100), (5, 0), (6, 0), (7, 0), (8, 0)] [0, 100] _)
      refine su_iaload hC dX1_meets_76 (?_ : SdS X 77 [(0, 11), (1, 16), (2, 0), (3, 0), (4, 100), (5, 0), (6, 0), (7, 0), (8, 0)] [0] _)
      refine su_aload hC 100 dX1_meets_77 (by decide) (by decide) (?_ : SdS X 79 [(0, 11), (1, 16), (2, 0), (3, 0), (4, 100), (5, 0), (6, 0), (7, 0), (8, 0)] [100, 0] _)
      refine su_iconst hC dX1_meets_79 ⟨by decide, by decide⟩ (?_ : SdS X 80 [(0, 11), (1, 16), (2, 0), (3, 0), (4, 100), (5, 0), (6, 0), (7, 0), (8, 0)] [0, 100, 0] _)
      refine su_iaload hC dX1_meets_80 (?_ : SdS X 81 [(0, 11), (1, 16), (2, 0), (3, 0), (4, 100), (5, 0), (6, 0), (7, 0), (8, 0)] [0, 0] _)
      refine su_icmp_le (tgt := 86) hC dX1_meets_81 rfl (?_ : SdS X 86 [(0, 11), (1, 16), (2, 0), (3, 0), (4, 100), (5, 0), (6, 0), (7, 0), (8, 0)] [] _) (?_ : SdS X 84 [(0, 11), (1, 16), (2, 0), (3, 0), (4, 100), (5, 0), (6, 0), (7, 0), (8, 0)] [] _)
      · refine su_iload hC dX1_meets_86 (by decide) (?_ : SdS X 88 [(0, 11), (1, 16), (2, 0), (3, 0), (4, 100), (5, 0), (6, 0), (7, 0), (8, 0)] [0] _)
        refine su_iload hC dX1_meets_88 (by decide) (?_ : SdS X 90 [(0, 11), (1, 16), (2, 0), (3, 0), (4, 100), (5, 0), (6, 0), (7, 0), (8, 0)] [0, 0] _)
        refine su_icmp_le (tgt := 95) hC dX1_meets_90 rfl (?_ : SdS X 95 [(0, 11), (1, 16), (2, 0), (3, 0), (4, 100), (5, 0), (6, 0), (7, 0), (8, 0)] [] _) (?_ : SdS X 93 [(0, 11), (1, 16), (2, 0), (3, 0), (4, 100), (5, 0), (6, 0), (7, 0), (8, 0)] [] _)
        · refine su_iload hC dX1_meets_95 (by decide) (?_ : SdS X 97 [(0, 11), (1, 16), (2, 0), (3, 0), (4, 100), (5, 0), (6, 0), (7, 0), (8, 0)] [0] _)
          refine su_iload hC dX1_meets_97 (by decide) (?_ : SdS X 99 [(0, 11), (1, 16), (2, 0), (3, 0), (4, 100), (5, 0), (6, 0), (7, 0), (8, 0)] [0, 0] _)
          refine su_aload hC 100 dX1_meets_99 (by decide) (by decide) (?_ : SdS X 101 [(0, 11), (1, 16), (2, 0), (3, 0), (4, 100), (5, 0), (6, 0), (7, 0), (8, 0)] [100, 0, 0] _)
          refine su_iconst hC dX1_meets_101 ⟨by decide, by decide⟩ (?_ : SdS X 102 [(0, 11), (1, 16), (2, 0), (3, 0), (4, 100), (5, 0), (6, 0), (7, 0), (8, 0)] [0, 100, 0, 0] _)
          refine su_iaload hC dX1_meets_102 (?_ : SdS X 103 [(0, 11), (1, 16), (2, 0), (3, 0), (4, 100), (5, 0), (6, 0), (7, 0), (8, 0)] [0, 0, 0] _)
          refine su_iadd hC dX1_meets_103 (?_ : SdS X 104 [(0, 11), (1, 16), (2, 0), (3, 0), (4, 100), (5, 0), (6, 0), (7, 0), (8, 0)] [0, 0] _)
          refine su_icmp_le (tgt := 109) hC dX1_meets_104 rfl (?_ : SdS X 109 [(0, 11), (1, 16), (2, 0), (3, 0), (4, 100), (5, 0), (6, 0), (7, 0), (8, 0)] [] _) (?_ : SdS X 107 [(0, 11), (1, 16), (2, 0), (3, 0), (4, 100), (5, 0), (6, 0), (7, 0), (8, 0)] [] _)
          · refine su_iload hC dX1_meets_109 (by decide) (?_ : SdS X 111 [(0, 11), (1, 16), (2, 0), (3, 0), (4, 100), (5, 0), (6, 0), (7, 0), (8, 0)] [0] _)
            refine su_iload hC dX1_meets_111 (by decide) (?_ : SdS X 113 [(0, 11), (1, 16), (2, 0), (3, 0), (4, 100), (5, 0), (6, 0), (7, 0), (8, 0)] [0, 0] _)
            refine su_aload hC 100 dX1_meets_113 (by decide) (by decide) (?_ : SdS X 115 [(0, 11), (1, 16), (2, 0), (3, 0), (4, 100), (5, 0), (6, 0), (7, 0), (8, 0)] [100, 0, 0] _)
            refine su_iconst hC dX1_meets_115 ⟨by decide, by decide⟩ (?_ : SdS X 116 [(0, 11), (1, 16), (2, 0), (3, 0), (4, 100), (5, 0), (6, 0), (7, 0), (8, 0)] [0, 100, 0, 0] _)
            refine su_iaload hC dX1_meets_116 (?_ : SdS X 117 [(0, 11), (1, 16), (2, 0), (3, 0), (4, 100), (5, 0), (6, 0), (7, 0), (8, 0)] [0, 0, 0] _)
            refine su_iadd hC dX1_meets_117 (?_ : SdS X 118 [(0, 11), (1, 16), (2, 0), (3, 0), (4, 100), (5, 0), (6, 0), (7, 0), (8, 0)] [0, 0] _)
            refine su_icmp_le (tgt := 126) hC dX1_meets_118 rfl (?_ : SdS X 126 [(0, 11), (1, 16), (2, 0), (3, 0), (4, 100), (5, 0), (6, 0), (7, 0), (8, 0)] [] _) (?_ : SdS X 121 [(0, 11), (1, 16), (2, 0), (3, 0), (4, 100), (5, 0), (6, 0), (7, 0), (8, 0)] [] _)
            · refine su_iconst hC dX1_meets_126 ⟨by decide, by decide⟩ (?_ : SdS X 127 [(0, 11), (1, 16), (2, 0), (3, 0), (4, 100), (5, 0), (6, 0), (7, 0), (8, 0)] [0] _)
              exact SdS.weak (by decide) (S_127)
            · refine su_bipush hC dX1_meets_121 (by decide) (?_ : SdS X 123 [(0, 11), (1, 16), (2, 0), (3, 0), (4, 100), (5, 0), (6, 0), (7, 0), (8, 0)] [0] _)
              refine su_goto (tgt := 127) hC dX1_meets_123 rfl (?_ : SdS X 127 [(0, 11), (1, 16), (2, 0), (3, 0), (4, 100), (5, 0), (6, 0), (7, 0), (8, 0)] [0] _)
              exact SdS.weak (by decide) (S_127)
          · refine su_iconst hC dX1_meets_107 ⟨by decide, by decide⟩ (?_ : SdS X 108 [(0, 11), (1, 16), (2, 0), (3, 0), (4, 100), (5, 0), (6, 0), (7, 0), (8, 0)] [0] _)
            exact su_ireturn hC hT dX1_meets_108
        · refine su_iconst hC dX1_meets_93 ⟨by decide, by decide⟩ (?_ : SdS X 94 [(0, 11), (1, 16), (2, 0), (3, 0), (4, 100), (5, 0), (6, 0), (7, 0), (8, 0)] [0] _)
          exact su_ireturn hC hT dX1_meets_94
      · refine su_iconst hC dX1_meets_84 ⟨by decide, by decide⟩ (?_ : SdS X 85 [(0, 11), (1, 16), (2, 0), (3, 0), (4, 100), (5, 0), (6, 0), (7, 0), (8, 0)] [0] _)
        exact su_ireturn hC hT dX1_meets_85
    · refine su_iconst hC dX1_meets_69 ⟨by decide, by decide⟩ (?_ : SdS X 70 [(0, 11), (1, 16), (2, 0), (3, 0), (4, 100), (5, 0), (6, 0), (7, 0), (8, 0)] [0] _)
      exact su_ireturn hC hT dX1_meets_70
  · refine su_iconst hC dX1_meets_58 ⟨by decide, by decide⟩ (?_ : SdS X 59 [(0, 11), (1, 16), (2, 0), (3, 0), (4, 100), (5, 0), (6, 0), (7, 0), (8, 0)] [0] _)
    exact su_ireturn hC hT dX1_meets_59
theorem wl_1_59 : Cond.fieldLink RX6 23 "NarrowRings$Thing" "tilts" "Z" ∈ WALL := tb1 (List.mem_of_getElem? (i := 59) rfl) rfl
theorem wl_1_57 : Cond.fieldLink RX6 19 "NarrowRings$Thing" "turns" "Z" ∈ WALL := tb1 (List.mem_of_getElem? (i := 57) rfl) rfl
theorem hd_X6_canLie : yX6_canLie.cls ≠ "java/lang/invoke/MethodHandle" ∧ yX6_canLie.cls ≠ "java/lang/invoke/VarHandle" ∧ (parseMethodDescriptor yX6_canLie.desc).map (fun d => d.parameters.length) = some 1 := by decide +kernel
set_option maxRecDepth 100000 in
set_option maxHeartbeats 4000000 in
theorem M_X6_canLie (l : Launch) : MtS l yX6_canLie (Cond.code yX6_canLie cX6_canLie 2 (some .boolean) :: WALL) { frames := 0, cells := 0, slots := 0, locals := 0 } [16, 0] (some 0) T_X6_canLie := by
  refine MtS.mk (B := E_X6_canLie) (by decide +kernel) (by decide) (fun _ _ _ hh => hh) ?_
  intro X Q e1 e2 e3 hC hN hT
  subst e1
  have hC : CF X cX6_canLie RX6 WALL := hC
  have S_33 : SdS X 33 [(0, 16), (1, 0)] [0] (B_X6_canLie_33 Q) := by
    unfold B_X6_canLie_33
    exact su_zreturn hC hT dX6_canLie_33
  have S_28 : SdS X 28 [(0, 16), (1, 0)] [] (B_X6_canLie_28 Q) := by
    unfold B_X6_canLie_28
    refine su_iconst hC dX6_canLie_28 ⟨by decide, by decide⟩ (?_ : SdS X 29 [(0, 16), (1, 0)] [0] _)
    refine su_goto (tgt := 33) hC dX6_canLie_29 rfl (?_ : SdS X 33 [(0, 16), (1, 0)] [0] _)
    exact SdS.weak (by decide) (S_33)
  have S_32 : SdS X 32 [(0, 16), (1, 0)] [] (B_X6_canLie_32 Q) := by
    unfold B_X6_canLie_32
    refine su_iconst hC dX6_canLie_32 ⟨by decide, by decide⟩ (?_ : SdS X 33 [(0, 16), (1, 0)] [0] _)
    exact SdS.weak (by decide) (S_33)
  have S_16 : SdS X 16 [(0, 16), (1, 0)] [] (B_X6_canLie_16 Q) := by
    unfold B_X6_canLie_16
    refine su_iload_n hC dX6_canLie_16 rfl (by decide) (?_ : SdS X 17 [(0, 16), (1, 0)] [0] _)
    refine su_iconst hC dX6_canLie_17 ⟨by decide, by decide⟩ (?_ : SdS X 18 [(0, 16), (1, 0)] [0, 0] _)
    refine su_icmp_ne (tgt := 32) hC dX6_canLie_18 rfl (?_ : SdS X 32 [(0, 16), (1, 0)] [] _) (?_ : SdS X 21 [(0, 16), (1, 0)] [] _)
    · exact SdS.weak (by decide) (S_32)
    · refine su_aload_n hC 16 dX6_canLie_21 rfl (by decide) (by decide) (?_ : SdS X 22 [(0, 16), (1, 0)] [16] _)
      refine su_getF hC (ci := 6) (j := 6) (C := RX6) (T := TX6) (N := 7) rfl rfl (by decide) in_X6 wl_1_59 rfl dX6_canLie_22 (?_ : SdS X 25 [(0, 16), (1, 0)] [0] _)
      refine su_if_eq (tgt := 32) hC dX6_canLie_25 rfl (?_ : SdS X 32 [(0, 16), (1, 0)] [] _) (?_ : SdS X 28 [(0, 16), (1, 0)] [] _)
      · exact SdS.weak (by decide) (S_32)
      · exact SdS.weak (by decide) (S_28)
  refine (?_ : SdS X 0 [(0, 16), (1, 0)] [] (E_X6_canLie Q))
  unfold E_X6_canLie
  refine su_iload_n hC dX6_canLie_0 rfl (by decide) (?_ : SdS X 1 [(0, 16), (1, 0)] [0] _)
  refine su_if_eq (tgt := 28) hC dX6_canLie_1 rfl (?_ : SdS X 28 [(0, 16), (1, 0)] [] _) (?_ : SdS X 4 [(0, 16), (1, 0)] [] _)
  · exact SdS.weak (by decide) (S_28)
  · refine su_iload_n hC dX6_canLie_4 rfl (by decide) (?_ : SdS X 5 [(0, 16), (1, 0)] [0] _)
    refine su_iconst hC dX6_canLie_5 ⟨by decide, by decide⟩ (?_ : SdS X 6 [(0, 16), (1, 0)] [0, 0] _)
    refine su_icmp_ne (tgt := 16) hC dX6_canLie_6 rfl (?_ : SdS X 16 [(0, 16), (1, 0)] [] _) (?_ : SdS X 9 [(0, 16), (1, 0)] [] _)
    · exact SdS.weak (by decide) (S_16)
    · refine su_aload_n hC 16 dX6_canLie_9 rfl (by decide) (by decide) (?_ : SdS X 10 [(0, 16), (1, 0)] [16] _)
      refine su_getF hC (ci := 6) (j := 5) (C := RX6) (T := TX6) (N := 7) rfl rfl (by decide) in_X6 wl_1_57 rfl dX6_canLie_10 (?_ : SdS X 13 [(0, 16), (1, 0)] [0] _)
      refine su_if_ne (tgt := 28) hC dX6_canLie_13 rfl (?_ : SdS X 28 [(0, 16), (1, 0)] [] _) (?_ : SdS X 16 [(0, 16), (1, 0)] [] _)
      · exact SdS.weak (by decide) (S_28)
      · exact SdS.weak (by decide) (S_16)
theorem wl_3_169 : Cond.methodLink RX1 84 yX1_meets ∈ WALL := tb3 (List.mem_of_getElem? (i := 169) rfl) rfl
theorem wl_3_170 : Cond.instanceMethod yX1_meets ∈ WALL := tb3 (List.mem_of_getElem? (i := 170) rfl) rfl
theorem wl_3_171 : Cond.selects RX1 yX1_meets yX1_meets ∈ WALL := tb3 (List.mem_of_getElem? (i := 171) rfl) rfl
theorem wl_1_2 : Cond.initialized RX1 ∈ WALL := tb1 (List.mem_of_getElem? (i := 2) rfl) rfl
theorem wl_3_172 : Cond.code yX1_meets cX1_meets 9 (some .int) ∈ WALL := tb3 (List.mem_of_getElem? (i := 172) rfl) rfl
theorem wl_3_173 : Cond.methodLink RX1 88 yX6_canLie ∈ WALL := tb3 (List.mem_of_getElem? (i := 173) rfl) rfl
theorem wl_3_174 : Cond.instanceMethod yX6_canLie ∈ WALL := tb3 (List.mem_of_getElem? (i := 174) rfl) rfl
theorem wl_3_175 : Cond.selects RX6 yX6_canLie yX6_canLie ∈ WALL := tb3 (List.mem_of_getElem? (i := 175) rfl) rfl
theorem wl_1_3 : Cond.initialized RX6 ∈ WALL := tb1 (List.mem_of_getElem? (i := 3) rfl) rfl
theorem wl_3_176 : Cond.code yX6_canLie cX6_canLie 2 (some .boolean) ∈ WALL := tb3 (List.mem_of_getElem? (i := 176) rfl) rfl
theorem wl_3_177 : Cond.methodLink RX1 92 yJ9_min_7cf53 ∈ WALL := tb3 (List.mem_of_getElem? (i := 177) rfl) rfl
theorem wl_3_140 : Cond.static yJ9_min_7cf53 ∈ WALL := tb3 (List.mem_of_getElem? (i := 140) rfl) rfl
theorem wl_1_16 : Cond.initialized RJ9 ∈ WALL := tb1 (List.mem_of_getElem? (i := 16) rfl) rfl
theorem wl_3_141 : Cond.code yJ9_min_7cf53 cJ9_min_7cf53 2 (some .int) ∈ WALL := tb3 (List.mem_of_getElem? (i := 141) rfl) rfl
theorem hd_X1_barOf : yX1_barOf.cls ≠ "java/lang/invoke/MethodHandle" ∧ yX1_barOf.cls ≠ "java/lang/invoke/VarHandle" ∧ (parseMethodDescriptor yX1_barOf.desc).map (fun d => d.parameters.length) = some 2 := by decide +kernel
set_option maxRecDepth 100000 in
set_option maxHeartbeats 4000000 in
theorem M_X1_barOf (l : Launch) : MtS l yX1_barOf (Cond.code yX1_barOf cX1_barOf 5 (some .int) :: WALL) { frames := 1, cells := 0, slots := 0, locals := 28 } [11, 16, 0] (some 0) T_X1_barOf := by
  refine MtS.mk (B := E_X1_barOf) (by decide +kernel) (by decide) (fun _ _ _ hh => hh) ?_
  intro X Q e1 e2 e3 hC hN hT
  subst e1
  have hC : CF X cX1_barOf RX1 WALL := hC
  have S_39 : ∀ (k11 : xK), SdS X 11 [(0, 11), (1, 16), (2, 0), (3, 0), (4, 0)] [] k11 → SdS X 39 [(0, 11), (1, 16), (2, 0), (3, 0), (4, 0)] [] (B_X1_barOf_39 Q k11) := by
    intro k11 h11
    unfold B_X1_barOf_39
    refine su_iinc (Γ' := [(0, 11), (1, 16), (2, 0), (3, 0), (4, 0)]) hC dX1_barOf_39 (by decide) (by rw [e2]; decide) (by decide) (?_ : SdS X 42 [(0, 11), (1, 16), (2, 0), (3, 0), (4, 0)] [] _)
    refine su_goto (tgt := 11) hC dX1_barOf_42 rfl (?_ : SdS X 11 [(0, 11), (1, 16), (2, 0), (3, 0), (4, 0)] [] _)
    exact SdS.weak (by decide) h11
  have S_11 : SdS X 11 [(0, 11), (1, 16), (2, 0), (3, 0), (4, 0)] [] (L_X1_barOf_11 Q) := by
    unfold L_X1_barOf_11
    refine SdS.loop (fun k11 h11 => ?_)
    refine su_iload hC dX1_barOf_11 (by decide) (?_ : SdS X 13 [(0, 11), (1, 16), (2, 0), (3, 0), (4, 0)] [0] _)
    refine su_iconst hC dX1_barOf_13 ⟨by decide, by decide⟩ (?_ : SdS X 14 [(0, 11), (1, 16), (2, 0), (3, 0), (4, 0)] [0, 0] _)
    refine su_icmp_ge (tgt := 45) hC dX1_barOf_14 rfl (?_ : SdS X 45 [(0, 11), (1, 16), (2, 0), (3, 0), (4, 0)] [] _) (?_ : SdS X 17 [(0, 11), (1, 16), (2, 0), (3, 0), (4, 0)] [] _)
    · refine su_iload_n hC dX1_barOf_45 rfl (by decide) (?_ : SdS X 46 [(0, 11), (1, 16), (2, 0), (3, 0), (4, 0)] [0] _)
      exact su_ireturn hC hT dX1_barOf_46
    · refine su_aload_n hC 16 dX1_barOf_17 rfl (by decide) (by decide) (?_ : SdS X 18 [(0, 11), (1, 16), (2, 0), (3, 0), (4, 0)] [16] _)
      refine su_iload hC dX1_barOf_18 (by decide) (?_ : SdS X 20 [(0, 11), (1, 16), (2, 0), (3, 0), (4, 0)] [0, 16] _)
      refine su_inv0 (τ := []) (τr := [0]) (ci := 6) (q := (RX6, TX6, 7)) hC WG (M_X6_canLie _) rfl rfl rfl rfl  rfl rfl wl_3_173 wl_3_174 wl_3_175 wl_1_3 wl_3_176 hd_X6_canLie (by rw [e3]; decide) (by decide) dX1_barOf_20 (?_ : SdS X 23 [(0, 11), (1, 16), (2, 0), (3, 0), (4, 0)] [0] _)
      refine su_if_eq (tgt := 39) hC dX1_barOf_23 rfl (?_ : SdS X 39 [(0, 11), (1, 16), (2, 0), (3, 0), (4, 0)] [] _) (?_ : SdS X 26 [(0, 11), (1, 16), (2, 0), (3, 0), (4, 0)] [] _)
      · exact SdS.weak (by decide) (S_39 k11 h11)
      · refine su_iload_n hC dX1_barOf_26 rfl (by decide) (?_ : SdS X 27 [(0, 11), (1, 16), (2, 0), (3, 0), (4, 0)] [0] _)
        refine su_aload_n hC 11 dX1_barOf_27 rfl (by decide) (by decide) (?_ : SdS X 28 [(0, 11), (1, 16), (2, 0), (3, 0), (4, 0)] [11, 0] _)
        refine su_aload_n hC 16 dX1_barOf_28 rfl (by decide) (by decide) (?_ : SdS X 29 [(0, 11), (1, 16), (2, 0), (3, 0), (4, 0)] [16, 11, 0] _)
        refine su_iload hC dX1_barOf_29 (by decide) (?_ : SdS X 31 [(0, 11), (1, 16), (2, 0), (3, 0), (4, 0)] [0, 16, 11, 0] _)
        refine su_iload_n hC dX1_barOf_31 rfl (by decide) (?_ : SdS X 32 [(0, 11), (1, 16), (2, 0), (3, 0), (4, 0)] [0, 0, 16, 11, 0] _)
        refine su_inv0 (τ := [0]) (τr := [16, 0, 0]) (ci := 1) (q := (RX1, TX1, 12)) hC WG (M_X1_meets _) rfl rfl rfl rfl  rfl rfl wl_3_169 wl_3_170 wl_3_171 wl_1_2 wl_3_172 hd_X1_meets (by rw [e3]; decide) (by decide) dX1_barOf_32 (?_ : SdS X 35 [(0, 11), (1, 16), (2, 0), (3, 0), (4, 0)] [0, 0] _)
        refine su_imin hC wl_3_177 wl_3_140 wl_1_16 wl_3_141 (by rw [e3]; decide) (by decide) dX1_barOf_35 (?_ : SdS X 38 [(0, 11), (1, 16), (2, 0), (3, 0), (4, 0)] [0] _)
        refine su_istore_n (Γ' := [(0, 11), (1, 16), (2, 0), (3, 0), (4, 0)]) hC dX1_barOf_38 rfl (by rw [e2]; decide) (by decide) (?_ : SdS X 39 [(0, 11), (1, 16), (2, 0), (3, 0), (4, 0)] [] _)
        exact SdS.weak (by decide) (S_39 k11 h11)
  refine (?_ : SdS X 0 [(0, 11), (1, 16), (2, 0)] [] (E_X1_barOf Q))
  unfold E_X1_barOf
  refine su_aload_n hC 11 dX1_barOf_0 rfl (by decide) (by decide) (?_ : SdS X 1 [(0, 11), (1, 16), (2, 0)] [11] _)
  refine su_aload_n hC 16 dX1_barOf_1 rfl (by decide) (by decide) (?_ : SdS X 2 [(0, 11), (1, 16), (2, 0)] [16, 11] _)
  refine su_iconst hC dX1_barOf_2 ⟨by decide, by decide⟩ (?_ : SdS X 3 [(0, 11), (1, 16), (2, 0)] [0, 16, 11] _)
  refine su_iload_n hC dX1_barOf_3 rfl (by decide) (?_ : SdS X 4 [(0, 11), (1, 16), (2, 0)] [0, 0, 16, 11] _)
  refine su_inv0 (τ := []) (τr := [16, 0, 0]) (ci := 1) (q := (RX1, TX1, 12)) hC WG (M_X1_meets _) rfl rfl rfl rfl  rfl rfl wl_3_169 wl_3_170 wl_3_171 wl_1_2 wl_3_172 hd_X1_meets (by rw [e3]; decide) (by decide) dX1_barOf_4 (?_ : SdS X 7 [(0, 11), (1, 16), (2, 0)] [0] _)
  refine su_istore_n (Γ' := [(0, 11), (1, 16), (2, 0), (3, 0)]) hC dX1_barOf_7 rfl (by rw [e2]; decide) (by decide) (?_ : SdS X 8 [(0, 11), (1, 16), (2, 0), (3, 0)] [] _)
  refine su_iconst hC dX1_barOf_8 ⟨by decide, by decide⟩ (?_ : SdS X 9 [(0, 11), (1, 16), (2, 0), (3, 0)] [0] _)
  refine su_istore (Γ' := [(0, 11), (1, 16), (2, 0), (3, 0), (4, 0)]) hC dX1_barOf_9 (by rw [e2]; decide) (by decide) (?_ : SdS X 11 [(0, 11), (1, 16), (2, 0), (3, 0), (4, 0)] [] _)
  exact SdS.weak (by decide) (S_11)
theorem wl_1_119 : Cond.fieldLink RX1 35 "NarrowRings$City" "part" "[LNarrowRings$Thing;" ∈ WALL := tb1 (List.mem_of_getElem? (i := 119) rfl) rfl
theorem wl_1_55 : Cond.fieldLink RX1 61 "NarrowRings$Thing" "loads" "I" ∈ WALL := tb1 (List.mem_of_getElem? (i := 55) rfl) rfl
theorem hd_X1_canCut : yX1_canCut.cls ≠ "java/lang/invoke/MethodHandle" ∧ yX1_canCut.cls ≠ "java/lang/invoke/VarHandle" ∧ (parseMethodDescriptor yX1_canCut.desc).map (fun d => d.parameters.length) = some 1 := by decide +kernel
set_option maxRecDepth 100000 in
set_option maxHeartbeats 4000000 in
theorem M_X1_canCut (l : Launch) : MtS l yX1_canCut (Cond.code yX1_canCut cX1_canCut 2 (some .boolean) :: WALL) { frames := 0, cells := 0, slots := 0, locals := 0 } [11, 0] (some 0) T_X1_canCut := by
  refine MtS.mk (B := E_X1_canCut) (by decide +kernel) (by decide) (fun _ _ _ hh => hh) ?_
  intro X Q e1 e2 e3 hC hN hT
  subst e1
  have hC : CF X cX1_canCut RX1 WALL := hC
  have S_18 : SdS X 18 [(0, 11), (1, 0)] [0] (B_X1_canCut_18 Q) := by
    unfold B_X1_canCut_18
    exact su_zreturn hC hT dX1_canCut_18
  refine (?_ : SdS X 0 [(0, 11), (1, 0)] [] (E_X1_canCut Q))
  unfold E_X1_canCut
  refine su_aload_n hC 11 dX1_canCut_0 rfl (by decide) (by decide) (?_ : SdS X 1 [(0, 11), (1, 0)] [11] _)
  refine su_getR hC (ci := 1) (j := 11) (C := RX1) (T := TX1) (N := 12) rfl rfl (by decide) in_X1 wl_1_119 rfl dX1_canCut_1 (?_ : SdS X 4 [(0, 11), (1, 0)] [116] _)
  refine su_iload_n hC dX1_canCut_4 rfl (by decide) (?_ : SdS X 5 [(0, 11), (1, 0)] [0, 116] _)
  refine su_aaload (e := 16) hC (List.mem_of_getElem? (i := 5) rfl) rfl rfl rfl dX1_canCut_5 (?_ : SdS X 6 [(0, 11), (1, 0)] [16] _)
  refine su_getF hC (ci := 6) (j := 4) (C := RX6) (T := TX6) (N := 7) rfl rfl (by decide) in_X6 wl_1_55 rfl dX1_canCut_6 (?_ : SdS X 9 [(0, 11), (1, 0)] [0] _)
  refine su_iconst hC dX1_canCut_9 ⟨by decide, by decide⟩ (?_ : SdS X 10 [(0, 11), (1, 0)] [0, 0] _)
  refine su_icmp_le (tgt := 17) hC dX1_canCut_10 rfl (?_ : SdS X 17 [(0, 11), (1, 0)] [] _) (?_ : SdS X 13 [(0, 11), (1, 0)] [] _)
  · refine su_iconst hC dX1_canCut_17 ⟨by decide, by decide⟩ (?_ : SdS X 18 [(0, 11), (1, 0)] [0] _)
    exact SdS.weak (by decide) (S_18)
  · refine su_iconst hC dX1_canCut_13 ⟨by decide, by decide⟩ (?_ : SdS X 14 [(0, 11), (1, 0)] [0] _)
    refine su_goto (tgt := 18) hC dX1_canCut_14 rfl (?_ : SdS X 18 [(0, 11), (1, 0)] [0] _)
    exact SdS.weak (by decide) (S_18)
theorem wl_1_108 : Cond.fieldLink RX1 20 "NarrowRings$City" "cart" "[[I" ∈ WALL := tb1 (List.mem_of_getElem? (i := 108) rfl) rfl
theorem wl_1_52 : Cond.fieldLink RX1 75 "NarrowRings$Thing" "weight" "I" ∈ WALL := tb1 (List.mem_of_getElem? (i := 52) rfl) rfl
theorem hd_X1_cartBears : yX1_cartBears.cls ≠ "java/lang/invoke/MethodHandle" ∧ yX1_cartBears.cls ≠ "java/lang/invoke/VarHandle" ∧ (parseMethodDescriptor yX1_cartBears.desc).map (fun d => d.parameters.length) = some 3 := by decide +kernel
set_option maxRecDepth 100000 in
set_option maxHeartbeats 4000000 in
theorem M_X1_cartBears (l : Launch) : MtS l yX1_cartBears (Cond.code yX1_cartBears cX1_cartBears 4 (some .boolean) :: WALL) { frames := 0, cells := 0, slots := 0, locals := 0 } [11, 16, 0, 0] (some 0) T_X1_cartBears := by
  refine MtS.mk (B := E_X1_cartBears) (by decide +kernel) (by decide) (fun _ _ _ hh => hh) ?_
  intro X Q e1 e2 e3 hC hN hT
  subst e1
  have hC : CF X cX1_cartBears RX1 WALL := hC
  have S_32 : SdS X 32 [(0, 11), (1, 16), (2, 0), (3, 0)] [0] (B_X1_cartBears_32 Q) := by
    unfold B_X1_cartBears_32
    exact su_zreturn hC hT dX1_cartBears_32
  have S_31 : SdS X 31 [(0, 11), (1, 16), (2, 0), (3, 0)] [] (B_X1_cartBears_31 Q) := by
    unfold B_X1_cartBears_31
    refine su_iconst hC dX1_cartBears_31 ⟨by decide, by decide⟩ (?_ : SdS X 32 [(0, 11), (1, 16), (2, 0), (3, 0)] [0] _)
    exact SdS.weak (by decide) (S_32)
  refine (?_ : SdS X 0 [(0, 11), (1, 16), (2, 0), (3, 0)] [] (E_X1_cartBears Q))
  unfold E_X1_cartBears
  refine su_aload_n hC 11 dX1_cartBears_0 rfl (by decide) (by decide) (?_ : SdS X 1 [(0, 11), (1, 16), (2, 0), (3, 0)] [11] _)
  refine su_getR hC (ci := 1) (j := 7) (C := RX1) (T := TX1) (N := 12) rfl rfl (by decide) in_X1 wl_1_108 rfl dX1_cartBears_1 (?_ : SdS X 4 [(0, 11), (1, 16), (2, 0), (3, 0)] [200] _)
  refine su_iload_n hC dX1_cartBears_4 rfl (by decide) (?_ : SdS X 5 [(0, 11), (1, 16), (2, 0), (3, 0)] [0, 200] _)
  refine su_aaload (e := 100) hC (List.mem_of_getElem? (i := 7) rfl) rfl rfl rfl dX1_cartBears_5 (?_ : SdS X 6 [(0, 11), (1, 16), (2, 0), (3, 0)] [100] _)
  refine su_iconst hC dX1_cartBears_6 ⟨by decide, by decide⟩ (?_ : SdS X 7 [(0, 11), (1, 16), (2, 0), (3, 0)] [0, 100] _)
  refine su_iaload hC dX1_cartBears_7 (?_ : SdS X 8 [(0, 11), (1, 16), (2, 0), (3, 0)] [0] _)
  refine su_iload_n hC dX1_cartBears_8 rfl (by decide) (?_ : SdS X 9 [(0, 11), (1, 16), (2, 0), (3, 0)] [0, 0] _)
  refine su_icmp_ne (tgt := 31) hC dX1_cartBears_9 rfl (?_ : SdS X 31 [(0, 11), (1, 16), (2, 0), (3, 0)] [] _) (?_ : SdS X 12 [(0, 11), (1, 16), (2, 0), (3, 0)] [] _)
  · exact SdS.weak (by decide) (S_31)
  · refine su_aload_n hC 11 dX1_cartBears_12 rfl (by decide) (by decide) (?_ : SdS X 13 [(0, 11), (1, 16), (2, 0), (3, 0)] [11] _)
    refine su_getR hC (ci := 1) (j := 7) (C := RX1) (T := TX1) (N := 12) rfl rfl (by decide) in_X1 wl_1_108 rfl dX1_cartBears_13 (?_ : SdS X 16 [(0, 11), (1, 16), (2, 0), (3, 0)] [200] _)
    refine su_iload_n hC dX1_cartBears_16 rfl (by decide) (?_ : SdS X 17 [(0, 11), (1, 16), (2, 0), (3, 0)] [0, 200] _)
    refine su_aaload (e := 100) hC (List.mem_of_getElem? (i := 7) rfl) rfl rfl rfl dX1_cartBears_17 (?_ : SdS X 18 [(0, 11), (1, 16), (2, 0), (3, 0)] [100] _)
    refine su_iconst hC dX1_cartBears_18 ⟨by decide, by decide⟩ (?_ : SdS X 19 [(0, 11), (1, 16), (2, 0), (3, 0)] [0, 100] _)
    refine su_iaload hC dX1_cartBears_19 (?_ : SdS X 20 [(0, 11), (1, 16), (2, 0), (3, 0)] [0] _)
    refine su_aload_n hC 16 dX1_cartBears_20 rfl (by decide) (by decide) (?_ : SdS X 21 [(0, 11), (1, 16), (2, 0), (3, 0)] [16, 0] _)
    refine su_getF hC (ci := 6) (j := 3) (C := RX6) (T := TX6) (N := 7) rfl rfl (by decide) in_X6 wl_1_52 rfl dX1_cartBears_21 (?_ : SdS X 24 [(0, 11), (1, 16), (2, 0), (3, 0)] [0, 0] _)
    refine su_icmp_lt (tgt := 31) hC dX1_cartBears_24 rfl (?_ : SdS X 31 [(0, 11), (1, 16), (2, 0), (3, 0)] [] _) (?_ : SdS X 27 [(0, 11), (1, 16), (2, 0), (3, 0)] [] _)
    · exact SdS.weak (by decide) (S_31)
    · refine su_iconst hC dX1_cartBears_27 ⟨by decide, by decide⟩ (?_ : SdS X 28 [(0, 11), (1, 16), (2, 0), (3, 0)] [0] _)
      refine su_goto (tgt := 32) hC dX1_cartBears_28 rfl (?_ : SdS X 32 [(0, 11), (1, 16), (2, 0), (3, 0)] [0] _)
      exact SdS.weak (by decide) (S_32)

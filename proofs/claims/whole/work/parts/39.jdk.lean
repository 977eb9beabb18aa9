/-! ===== String.checkIndex by hand: its formatter is a static that is null or a reference ===== -/
theorem wj_fl : Cond.fieldLink RJ0 1053 "jdk/internal/util/Preconditions" "SIOOBE_FORMATTER" "Ljava/util/function/BiFunction;" ∈ WALL := tb2 (List.mem_of_getElem? (i := 229) rfl) rfl
theorem wj_ml : Cond.methodLink RJ0 1059 yJ3_checkIndex_8e157 ∈ WALL := tb2 (List.mem_of_getElem? (i := 231) rfl) rfl
theorem wj_st : Cond.static yJ3_checkIndex_8e157 ∈ WALL := tb2 (List.mem_of_getElem? (i := 232) rfl) rfl
theorem wj_in : Cond.initialized yJ3_checkIndex_8e157.cls ∈ WALL := tb1 (List.mem_of_getElem? (i := 14) rfl) rfl
theorem wj_co : Cond.code yJ3_checkIndex_8e157 cJ3_checkIndex_8e157 3 (some .int) ∈ WALL := tb2 (List.mem_of_getElem? (i := 233) rfl) rfl
theorem hd_J0_checkIndex_df160 : yJ0_checkIndex_df160.cls ≠ "java/lang/invoke/MethodHandle" ∧ yJ0_checkIndex_df160.cls ≠ "java/lang/invoke/VarHandle" ∧ (parseMethodDescriptor yJ0_checkIndex_df160.desc).map (fun d => d.parameters.length) = some 2 := by decide +kernel
theorem hd_J3_checkIndex_8e157 : yJ3_checkIndex_8e157.cls ≠ "java/lang/invoke/MethodHandle" ∧ yJ3_checkIndex_8e157.cls ≠ "java/lang/invoke/VarHandle" ∧ (parseMethodDescriptor yJ3_checkIndex_8e157.desc).map (fun d => d.parameters.length) = some 3 := by decide +kernel
theorem met_J3 (l : Launch) (G : GT) (h : tH) (i n : Int) (v : Value) (hv : v = .null ∨ ∃ t, v = .ref t) (hi : inI i) (hn : inI n) (hin : 0 ≤ i ∧ i < n) : Met l yJ3_checkIndex_8e157 (Cond.code yJ3_checkIndex_8e157 cJ3_checkIndex_8e157 3 (some .int) :: WALL) { frames := 0, cells := 0, slots := 0, locals := 0 } (va_Pc [.int (Int32.ofInt i), .int (Int32.ofInt n), v] (fun U => RH G h U.heap ∧ KU G U)) (mQ G h (some 0) (fun _ h' => h' = h)) 0 0 (fun q => gB G ≤ q) := by
  refine Met.ofW (cc := cJ3_checkIndex_8e157) (maxL := 3) (ret := some .int) (by decide +kernel) rfl ?_
  intro p e s m args below meth c s₁ Bd hml hv0
  obtain ⟨rfl, hH, hK⟩ := hv0
  have hx := Bd.exec
  have hb := Bd.bytes
  have hr := Bd.returns
  have hlocks := Bd.notSynchronized
  have hlen : (lg_sl [.int (Int32.ofInt i), .int (Int32.ofInt n), v]).length ≤ 3 := by
    rcases hv with rfl | ⟨t, rfl⟩ <;> exact Nat.le_of_ble_eq_true rfl
  have hl := lv_entry [.int (Int32.ofInt i), .int (Int32.ofInt n), v] (n := 3) hlen
  rw [lg_entry_eq]
  generalize (lg_sl [.int (Int32.ofInt i), .int (Int32.ofInt n), v] ++ List.replicate (3 - (lg_sl [.int (Int32.ofInt i), .int (Int32.ofInt n), v]).length) Slot.unset).toArray = ls at hl ⊢
  have hl : lv_has ls 3 [(0, .int (Int32.ofInt i)), (1, .int (Int32.ofInt n)), (2, v)] := hl
  refine lv_iload_n hx hb dJ3_checkIndex_8e157_0 rfl (lv_at hl 0 rfl) ?_
  refine lv_if_lt hx hb dJ3_checkIndex_8e157_1 (tgt := 9) rfl (fun z => absurd ((of_lt hi inI_0).mp z) (by omega)) (fun _ => ?_)
  refine lv_iload_n hx hb dJ3_checkIndex_8e157_4 rfl (lv_at hl 0 rfl) ?_
  refine lv_iload_n hx hb dJ3_checkIndex_8e157_5 rfl (lv_at hl 1 rfl) ?_
  refine lv_icmp_lt hx hb dJ3_checkIndex_8e157_6 (tgt := 16) rfl (fun _ => ?_) (fun z => absurd ((of_lt hi hn).mpr hin.2) z)
  refine lv_iload_n hx hb dJ3_checkIndex_8e157_16 rfl (lv_at hl 0 rfl) ?_
  exact W.iret (v := Int32.ofInt i) hx hb hr (fun t ht hW => ⟨i, h, rfl, rfl, by rw [ht]; exact hH, fun ty e => by cases e; exact hi, hLe.rf⟩) (fun q hq => by cases hq) dJ3_checkIndex_8e157_17 hlocks
theorem M_J0_checkIndex_df160 (l : Launch) : MtS l yJ0_checkIndex_df160 (Cond.code yJ0_checkIndex_df160 cJ0_checkIndex_df160 2 none :: WALL) { frames := 1, cells := 0, slots := 0, locals := 22 } [0, 0] none T_J0_checkIndex_df160 := by
  refine MtS.mk (B := fun Q lo _ s _ _ => (0 ≤ lo.getD 0 0 ∧ lo.getD 0 0 < lo.getD 1 0) ∧ Q 0 s) (by decide +kernel) (by decide) ?_ ?_
  · rintro xs h Q ⟨i, n, rfl, hin, hQ⟩
    exact ⟨hin, hQ⟩
  intro X Q e1 e2 e3 hC hN hT lo st h cn sn H locs ls hk hH hL hS hl h1 h2
  subst e1
  have hC : CF X cJ0_checkIndex_df160 RJ0 WALL := hC
  obtain ⟨hin, hQ⟩ := hk
  have v0 : inI (lo.getD 0 0) := hL.2.2.1 (0, 0) (by decide)
  have v1 : inI (lo.getD 1 0) := hL.2.2.1 (1, 0) (by decide)
  have hlv := hL.2.1
  have hgk := hL.2.2.2
  have hkp := kept_of hH
  obtain ⟨Q0, hT, hQ0⟩ := hT
  cases st with
  | cons _ _ => exact hS.elim
  | nil =>
    obtain ⟨p, l, e, R, s, m, args, below, meth, c, Qf, G, nL⟩ := X
    obtain ⟨hx, hb, hml, hown, hts, hK, hlocks⟩ := hC
    obtain ⟨rfl, hr⟩ := hT
    dsimp only [xG, xm, xR, xn] at *
    subst e2
    subst e3
    have hls := hlv.1
    have hlv : lv_has ls 2 [(0, .int (Int32.ofInt (lo.getD 0 0))), (1, .int (Int32.ofInt (lo.getD 1 0)))] := hlv
    generalize lo.getD 0 0 = i at *
    generalize lo.getD 1 0 = n at *
    refine lv_iload_n hx hb dJ0_checkIndex_df160_0 rfl (lv_at hlv 0 rfl) ?_
    refine lv_iload_n hx hb dJ0_checkIndex_df160_1 rfl (lv_at hlv 1 rfl) ?_
    have key : ∀ v : Value, (v = .null ∨ ∃ t, v = .ref t) → va_Z "jdk/internal/util/Preconditions" "SIOOBE_FORMATTER" "Ljava/util/function/BiFunction;" v (fun q => gB G ≤ q) s (gH G) → W p l e { frames := 1, cells := 0, slots := 0, locals := 22 } s m args below meth c H locs cn sn (MQ below (mQ G (gK G) none Q0) args s 0 0 (fun q => gB G ≤ q)) (F0 m (0 + 1 + 1) ls [.int (Int32.ofInt n), .int (Int32.ofInt i)]) := by
      intro v hv hZ
      obtain ⟨cf, kf, fi, f, a, cell, q1, q2, q3, q4, q5, q6, q7, q8⟩ := hZ
      refine W.gets hx hb hown (hts _ wj_fl) q1 q2 q3 q4 (by rw [hkp a (Array.getElem?_eq_some_iff.mp q5).1 q8]; exact q5) (fun e => by rw [e] at q6; cases q6) q7 rfl dJ0_checkIndex_df160_2 ?_
      have hmet := met_J3 l G h i n v hv v0 v1 hin
      have hgd := goodW WG wj_co (ws0 := []) (fun w hw => by cases hw)
      have hcat : v.category = 1 := by rcases hv with rfl | ⟨t, rfl⟩ <;> rfl
      have hrun := va_runS (e := e) (below := below) (meth := meth) (As := [.int (Int32.ofInt i), .int (Int32.ofInt n), v]) (rest := []) (H := H) (locs := locs) (cells := cn) (slots := sn) (g := F0 m (0 + 1 + 1 + 3) ls [v, .int (Int32.ofInt n), .int (Int32.ofInt i)]) ⟨hx, hb, hml, hown, hts⟩ hmet ⟨callB_of 3 hts hgd rfl rfl rfl (hts _ wj_in) (hts _ wj_ml) hd_J3_checkIndex_8e157 ⟨by decide, by decide⟩, hts _ wj_st⟩ ⟨fun _ U _ _ q => ⟨q.1, q.2.1, KU.same (u := U) rfl q.2.2⟩, fun U hU hW => ⟨rfl, by rw [hU]; exact hH, hK.warm hW⟩⟩ rfl rfl hls rfl (lv_room (by decide)) dJ0_checkIndex_df160_5 ⟨h1, h2⟩
      refine call_fin hrun hl fun w h' H' locs' a1 a2 a3 a4 a5 => ?_
      subst a1
      refine lv_pop hx hb dJ0_checkIndex_df160_8 rfl ?_
      refine W.widen (k := 0) (n := 0) h1 h2 ?_
      exact W.vret hx hb hr (fun t ht hW => ⟨0, h', rfl, hQ0 0 h' hQ, by rw [ht]; exact a2, fun ty e => (by cases e), hgk⟩) a5 dJ0_checkIndex_df160_9 hlocks
    rcases hK.2.2.2.2.2.2.2.2.2.1 with hZ | ⟨t, hZ⟩
    · exact key _ (Or.inl rfl) hZ
    · exact key _ (Or.inr ⟨t, rfl⟩) hZ

/-! ===== what holds at the law's entry ===== -/
def rdI : List Nat := [90, 95, 97, 99, 101, 103, 105, 107, 109, 167, 173, 174, 176, 178, 180, 187, 191, 193, 198, 200, 242, 248, 253, 255]
def mdI : List Nat := [154, 156, 157, 159, 161, 162, 164, 166, 168, 224, 229, 230, 232, 234, 236, 252, 263, 265, 274, 276, 299, 304, 309, 311]
def stR (i : Nat) : Term := .string "NarrowRings$Reader" (rdI.getD i 0)
def stM2 (i : Nat) : Term := .string "NarrowRingsModel" (mdI.getD i 0)
def stV (i : Nat) : Term := .field (stR i) "java/lang/String" "value" "[B"
def fLL : List Cond := flatC (Jvm.Cond.and given_1 narrow_1)
theorem fl_ex : ∀ i, i < 24 → Cond.exactly (stR i) "java/lang/String" ∈ fLL := by decide +kernel
theorem fl_co : ∀ i, i < 24 → Cond.eq (.field (stR i) "java/lang/String" "coder" "B") (.int 0) ∈ fLL := by decide +kernel
theorem fl_ar : ∀ i, i < 24 → Cond.arrayOf (stV i) .byte ∈ fLL := by decide +kernel
theorem fl_le : ∀ i, i < 24 → Cond.eq (.length (stV i)) (.int (Int32.ofNat (lenT.getD i 0))) ∈ fLL := by decide +kernel
theorem fl_el : ∀ i, i < 24 → ∀ j, j < lenT.getD i 0 → Cond.eq (.elem (stV i) (.int (Int32.ofNat j))) (.int ((bytT.getD i []).getD j 0)) ∈ fLL := by decide +kernel
theorem fl_eq : ∀ i, i < 24 → Cond.eq (stR i) (stM2 i) ∈ fLL := by decide +kernel
theorem fl_ln : ∀ i, i < 24 → lenT.getD i 0 < 2 ^ 31 := by decide +kernel
theorem fl_di : ∀ i, i < 24 → ∀ j, j < 24 → (lenT.getD i 0 = lenT.getD j 0 ∧ ∀ q, q < lenT.getD i 0 → (bytT.getD i []).getD q 0 = (bytT.getD j []).getD q 0) → i = j := by decide +kernel
theorem fl_s1 : Cond.eq (.static "java/lang/String" "COMPACT_STRINGS" "Z") (.int 1) ∈ fLL := by decide +kernel
theorem fl_s2 : Cond.isRef (.static "jdk/internal/util/Preconditions" "SIOOBE_FORMATTER" "Ljava/util/function/BiFunction;") ∈ fLL := by decide +kernel
theorem fl_s3 : Cond.isRef (.static "java/lang/Throwable" "UNASSIGNED_STACK" "[Ljava/lang/StackTraceElement;") ∈ fLL := by decide +kernel
theorem fl_s4 : Cond.isRef (.static "java/lang/Throwable" "SUPPRESSED_SENTINEL" "Ljava/util/List;") ∈ fLL := by decide +kernel
theorem tb_sr : ∀ q ∈ strL, Cond.stringRef q.1 q.2.1 q.2.2.1 ∈ lw_tbl := by decide +kernel
theorem tb_nf : ∀ q ∈ nestF, Cond.fieldLinkNest q.1 q.2.1 q.2.2.1 q.2.2.2.1 q.2.2.2.2.1 q.2.2.2.2.2 ∈ lw_tbl := by decide +kernel
theorem tb_nm : ∀ q ∈ nestM, Cond.methodLinkNest q.1 q.2.1 q.2.2.1 q.2.2.2 ∈ lw_tbl := by decide +kernel
theorem tb_ao : ∀ C ∈ [RX2, RX6, RX7], Cond.arrayOver (.object C) ∈ lw_tbl := by decide +kernel
theorem tb_oa : Cond.arrayOver (.array .int) ∈ lw_tbl := by decide +kernel
theorem tb_ac : ∀ t ∈ [FieldType.int, .long, .byte, .boolean], Cond.arrayClass t ∈ lw_tbl := by decide +kernel
theorem tb_ls : ∀ q ∈ [("java/lang/String", "COMPACT_STRINGS", "Z"), ("jdk/internal/util/Preconditions", "SIOOBE_FORMATTER", "Ljava/util/function/BiFunction;"), ("java/lang/Throwable", "UNASSIGNED_STACK", "[Ljava/lang/StackTraceElement;"), ("java/lang/Throwable", "SUPPRESSED_SENTINEL", "Ljava/util/List;")], Cond.laysStatic q.1 q.2.1 q.2.2 ∈ lw_tbl ∧ Cond.initialized q.1 ∈ lw_tbl := by decide +kernel
theorem tb_i0 : Cond.instantiable RX0 2 ∈ lw_tbl := by decide +kernel
theorem tb_i1 : Cond.instantiable RX1 12 ∈ lw_tbl := by decide +kernel
theorem tb_i2 : Cond.instantiable RX2 10 ∈ lw_tbl := by decide +kernel
theorem tb_i3 : Cond.instantiable RX3 6 ∈ lw_tbl := by decide +kernel
theorem tb_i4 : Cond.instantiable RX4 15 ∈ lw_tbl := by decide +kernel
theorem tb_i5 : Cond.instantiable RX5 3 ∈ lw_tbl := by decide +kernel
theorem tb_i6 : Cond.instantiable RX6 7 ∈ lw_tbl := by decide +kernel
theorem tb_i7 : Cond.instantiable RX7 7 ∈ lw_tbl := by decide +kernel
theorem tb_i8 : Cond.instantiable RX8 18 ∈ lw_tbl := by decide +kernel
theorem tb_i9 : Cond.instantiable RX9 28 ∈ lw_tbl := by decide +kernel
theorem tb_i10 : Cond.instantiable RX10 45 ∈ lw_tbl := by decide +kernel
theorem st_Sof {args : Array Value} {s : State} {N : Nat} {tm : Nat → Term} {len : List Nat} {byt : List (List Int32)} {A : Nat → Prop} (hN : ∀ i : Nat, i < N → len.getD i 0 < 2 ^ 31) (hex : ∀ i : Nat, i < N → (Cond.exactly (tm i) "java/lang/String").before args s = true) (hco : ∀ i : Nat, i < N → (Cond.eq (.field (tm i) "java/lang/String" "coder" "B") (.int 0)).before args s = true)
    (har : ∀ i : Nat, i < N → (Cond.arrayOf (.field (tm i) "java/lang/String" "value" "[B") .byte).before args s = true) (hle : ∀ i : Nat, i < N → (Cond.eq (.length (.field (tm i) "java/lang/String" "value" "[B")) (.int (Int32.ofNat (len.getD i 0)))).before args s = true)
    (hel : ∀ i : Nat, i < N → ∀ j : Nat, j < len.getD i 0 → (Cond.eq (.elem (.field (tm i) "java/lang/String" "value" "[B") (.int (Int32.ofNat j))) (.int ((byt.getD i []).getD j 0))).before args s = true)
    (hdi : ∀ i : Nat, i < N → ∀ j : Nat, j < N → (len.getD i 0 = len.getD j 0 ∧ ∀ q : Nat, q < len.getD i 0 → (byt.getD i []).getD q 0 = (byt.getD j []).getD q 0) → i = j) (hA : ∀ a : Nat, a < s.heap.size → ¬ A a) :
    ∃ adK adV : Nat → Nat, vk_S N len byt adK adV A s s.heap ∧ ∀ i : Nat, i < N → (tm i).eval args s none [] s = some (.ref (adK i)) := by
  have h0 : ∀ i : Nat, ∃ q : Nat × Nat, i < N → (tm i).eval args s none [] s = some (.ref q.1) ∧ va_O "java/lang/String" q.1 A s s.heap ∧ va_OF "java/lang/String" "coder" "B" (.int 0) q.1 A s s.heap ∧ va_OF "java/lang/String" "value" "[B" (.ref q.2) q.1 A s s.heap ∧ va_T .byte q.2 (len.getD i 0) (fun j => .int ((byt.getD i []).getD j 0)) A s s.heap := by
    intro i
    by_cases hi : i < N
    · obtain ⟨a, c, cA, kA, q1, q2, q3, q4, q5, q6, -⟩ := Cond.exactly_spec (args := args) (first := s) (o := none) (s := s) (idx := []) (t := tm i) (cls := "java/lang/String") (hex i hi)
      obtain ⟨t, ht, hT⟩ := va_Tof (f := fun j => .int ((byt.getD i []).getD j 0)) (A := A) (hN i hi) (har i hi) (va_eqt (hle i hi)) (fun j hj => va_eqt (hel i hi j hj)) hA
      exact ⟨(a, t), fun _ => ⟨q1, ⟨cA, q3, q5, by rw [q6]; exact q2, hA a (Array.getElem?_eq_some_iff.mp q3).1⟩, vk_OFof q1 (va_eqt (hco i hi)) hA, vk_OFof q1 ht hA, hT⟩⟩
    · exact ⟨(0, 0), fun h => absurd h hi⟩
  obtain ⟨ad, had⟩ := Classical.axiomOfChoice h0
  refine ⟨fun i => (ad i).1, fun i => (ad i).2, ⟨fun i hi => (had i hi).2, fun i j hi hj e => ?_⟩, fun i hi => (had i hi).1⟩
  have e : (ad i).1 = (ad j).1 := e
  obtain ⟨-, -, -, ⟨cf, k, fi, f, cell, g1, g2, g3, g4, g5, g6⟩, ⟨cl, t1, t2, t3, t4, t5, t6, t7⟩⟩ := had i hi
  obtain ⟨-, -, -, ⟨cf', k', fi', f', cell', g1', g2', g3', g4', g5', g6'⟩, ⟨cl', t1', t2', t3', t4', t5', t6', t7'⟩⟩ := had j hj
  rw [e, g3'] at g3
  cases g3
  rw [g1'] at g1
  cases g1
  rw [g5'] at g5
  have ev : (ad j).2 = (ad i).2 := by
    have this := Option.some.inj g5
    injection this
  rw [ev, t1] at t1'
  cases t1'
  have en : len.getD i 0 = len.getD j 0 := (nI_eq (hN i hi) (hN j hj)).mp (show Int32.ofNat _ = Int32.ofNat _ from t5.symm.trans t5')
  refine hdi i hi j hj ⟨en, fun q hq => ?_⟩
  have a1 := t6 q hq
  have a2 := t6' q (en ▸ hq)
  rw [a1] at a2
  have := Option.some.inj a2
  injection this
theorem ar_of {args : Array Value} {s : State} {ty : FieldType} (h : (Cond.arrayClass ty).before args s = true) : ∃ cA : ClassId, ArrOfT s cA ty ∧ s.vm.findClass ("[" ++ ty.toString) = some cA := by
  obtain ⟨c, k, comp, h1, h2, h3⟩ := Cond.arrayClass_spec (args := args) (first := s) (o := none) (s := s) (idx := []) (type := ty) h
  exact ⟨c, fun n z => ⟨fun k h => (by cases h), k, h2, comp, h3⟩, h1⟩
theorem ar_ob {s : State} {C : String} (h : va_AO C s) : ∃ cA : ClassId, ArrOfT s cA (.object C) ∧ va_RA s cA (.object C) := by
  obtain ⟨comp, c, k, h1, h2, h3, h4, h5⟩ := Cond.arrayOver_spec h
  exact ⟨c, fun n z => ⟨fun k h => (by cases h), k, h3, comp, h4⟩, k, comp, h3, h4, h1, h5⟩
theorem ar_ia {s : State} (h : oaI s) : ∃ cA : ClassId, ArrOfT s cA (.array .int) ∧ va_RA s cA (.array .int) := by
  obtain ⟨comp, c, k, h1, h2, h3, h4, h5⟩ := oaI.spec h
  exact ⟨c, fun n z => ⟨fun k h => (by cases h), k, h3, comp, h4⟩, h5⟩
theorem ku_start {s : State} {b : Nat} (hts : ∀ w ∈ lw_tbl, w.before #[Value.ref b] s = true) (hgv : (Jvm.Cond.and given_1 narrow_1).before #[Value.ref b] s = true) : ∃ (D : va_G) (A : Nat → ClassId) (S V : Nat → Nat), ∀ h0 : tH, KU (D, A, S, b, s.heap.size, s.heap, V, h0) s := by
  have hW : ∀ w ∈ WALL, w.before #[Value.ref b] s = true := fun w hw => hts w (List.mem_filter.mp hw).1
  have FB := flat_of_before _ hgv
  have hA : ∀ a : Nat, a < s.heap.size → ¬ (fun q : Nat => s.heap.size ≤ q) a := fun a h => Nat.not_le.mpr h
  obtain ⟨c0, s0, k0⟩ := u_known (C := RX0) (T := TX0) (N := 2) (n := 2) hW in_X0 (hts _ tb_i0)
  obtain ⟨c1, s1, k1⟩ := u_known (C := RX1) (T := TX1) (N := 12) (n := 12) hW in_X1 (hts _ tb_i1)
  obtain ⟨c2, s2, k2⟩ := u_known (C := RX2) (T := TX2) (N := 10) (n := 10) hW in_X2 (hts _ tb_i2)
  obtain ⟨c3, s3, k3⟩ := u_known (C := RX3) (T := TX3) (N := 6) (n := 6) hW in_X3 (hts _ tb_i3)
  obtain ⟨c4, s4, k4⟩ := u_known (C := RX4) (T := TX4) (N := 15) (n := 15) hW in_X4 (hts _ tb_i4)
  obtain ⟨c5, s5, k5⟩ := u_known (C := RX5) (T := TX5) (N := 3) (n := 3) hW in_X5 (hts _ tb_i5)
  obtain ⟨c6, s6, k6⟩ := u_known (C := RX6) (T := TX6) (N := 7) (n := 7) hW in_X6 (hts _ tb_i6)
  obtain ⟨c7, s7, k7⟩ := u_known (C := RX7) (T := TX7) (N := 7) (n := 7) hW in_X7 (hts _ tb_i7)
  obtain ⟨c8, s8, k8⟩ := u_known (C := RX8) (T := TX8) (N := 18) (n := 18) hW in_X8 (hts _ tb_i8)
  obtain ⟨c9, s9, k9⟩ := u_known (C := RX9) (T := TX9) (N := 28) (n := 28) hW in_X9 (hts _ tb_i9)
  obtain ⟨c10, s10, k10⟩ := u_known (C := RX10) (T := TX10) (N := 45) (n := 45) hW in_X10 (hts _ tb_i10)
  obtain ⟨dC, dI, hKc⟩ : ∃ (dC : Nat → ClassId) (dI : Nat → Nat → Nat), ∀ (k : Nat) (q : vw_C), clsA[k]? = some q → u_Kn s q.1 q.2.1 q.2.2 (dC k) (dI k) := by
    refine ⟨fun k => [c0, c1, c2, c3, c4, c5, c6, c7, c8, c9, c10].getD k c0, fun k => [s0, s1, s2, s3, s4, s5, s6, s7, s8, s9, s10].getD k s0, ?_⟩
    intro k q hq
    match k, hq with
    | 0, hq => cases hq; exact k0
    | 1, hq => cases hq; exact k1
    | 2, hq => cases hq; exact k2
    | 3, hq => cases hq; exact k3
    | 4, hq => cases hq; exact k4
    | 5, hq => cases hq; exact k5
    | 6, hq => cases hq; exact k6
    | 7, hq => cases hq; exact k7
    | 8, hq => cases hq; exact k8
    | 9, hq => cases hq; exact k9
    | 10, hq => cases hq; exact k10
    | k + 11, hq => exact absurd hq (by simp)
  have hAO : ∀ C ∈ [RX2, RX6, RX7], va_AO C s := fun C hC => va_AO.of (hts _ (tb_ao C hC))
  have hoa : oaI s := hts _ tb_oa
  obtain ⟨a0, p0, r0⟩ := ar_of (ty := .int) (hts _ (tb_ac _ (by decide)))
  obtain ⟨a1, p1, r1⟩ := ar_of (ty := .long) (hts _ (tb_ac _ (by decide)))
  obtain ⟨a2, p2, r2⟩ := ar_of (ty := .byte) (hts _ (tb_ac _ (by decide)))
  obtain ⟨a3, p3, r3⟩ := ar_of (ty := .boolean) (hts _ (tb_ac _ (by decide)))
  obtain ⟨a4, p4, r4⟩ := ar_ob (hAO RX2 (by decide))
  obtain ⟨a5, p5, r5⟩ := ar_ob (hAO RX6 (by decide))
  obtain ⟨a6, p6, r6⟩ := ar_ob (hAO RX7 (by decide))
  obtain ⟨a7, p7, r7⟩ := ar_ia hoa
  obtain ⟨A, hAr⟩ : ∃ A : Nat → ClassId, ∀ q ∈ arrK, ArrOfT s (A q.1) q.2 ∧ va_RA s (A q.1) q.2 := by
    refine ⟨fun k => if k = 100 then a0 else if k = 101 then a1 else if k = 102 then a2 else if k = 103 then a3 else if k = 112 then a4 else if k = 116 then a5 else if k = 117 then a6 else a7, ?_⟩
    intro q hq
    simp only [arrK, List.mem_cons, List.not_mem_nil, or_false] at hq
    rcases hq with rfl | rfl | rfl | rfl | rfl | rfl | rfl | rfl
    · exact ⟨p0, r0⟩
    · exact ⟨p1, r1⟩
    · exact ⟨p2, r2⟩
    · exact ⟨p3, r3⟩
    · exact ⟨p4, r4⟩
    · exact ⟨p5, r5⟩
    · exact ⟨p6, r6⟩
    · exact ⟨p7, r7⟩
  obtain ⟨S, V, hS, hSe⟩ := st_Sof (args := #[Value.ref b]) (s := s) (N := 24) (tm := stR) (len := lenT) (byt := bytT) (A := fun q : Nat => s.heap.size ≤ q) fl_ln (fun i hi => FB _ (fl_ex i hi)) (fun i hi => FB _ (fl_co i hi)) (fun i hi => FB _ (fl_ar i hi)) (fun i hi => FB _ (fl_le i hi)) (fun i hi j hj => FB _ (fl_el i hi j hj)) fl_di hA
  have hSm : ∀ i : Nat, i < 24 → (stM2 i).eval #[Value.ref b] s none [] s = some (.ref (S i)) := fun i hi => va_eqR (FB _ (fl_eq i hi)) (hSe i hi)
  have hR : ∀ q ∈ strL, vk_R q.1 q.2.1 q.2.2.1 (S q.2.2.2) s := by
    intro q hq
    have hw := hts _ (tb_sr q hq)
    refine vk_R.of (A := #[Value.ref b]) hw ?_
    have key : ∀ q ∈ strL, q.2.2.2 < 24 ∧ ((q.1 = "NarrowRings$Reader" ∧ q.2.1 = rdI.getD q.2.2.2 0) ∨ (q.1 = "NarrowRingsModel" ∧ q.2.1 = mdI.getD q.2.2.2 0)) := by decide +kernel
    obtain ⟨u, v | v⟩ := key q hq
    · rw [v.1, v.2]; exact hSe _ u
    · rw [v.1, v.2]; exact hSm _ u
  refine ⟨(dC, dI), A, S, V, fun h0 => ⟨⟨hKc, fun k q h => by simp at h⟩, hAr, fun q hq => va_Nw.of rfl (hts _ (tb_nf q hq)), fun q hq => va_Nw.of rfl (hts _ (tb_nm q hq)), hAO, hoa, hR, hS, ?_, ?_, ?_, ?_⟩⟩
  · exact va_Zof (hts _ (tb_ls _ (List.mem_of_getElem? (i := 0) rfl)).1) (hts _ (tb_ls _ (List.mem_of_getElem? (i := 0) rfl)).2) (va_eqt (FB _ fl_s1)) hA
  · exact va_Zqof (hts _ (tb_ls _ (List.mem_of_getElem? (i := 1) rfl)).1) (hts _ (tb_ls _ (List.mem_of_getElem? (i := 1) rfl)).2) (FB _ fl_s2) hA
  · exact vx_Zqof (hts _ (tb_ls _ (List.mem_of_getElem? (i := 2) rfl)).1) (hts _ (tb_ls _ (List.mem_of_getElem? (i := 2) rfl)).2) (FB _ fl_s3) hA
  · exact vx_Zqof (hts _ (tb_ls _ (List.mem_of_getElem? (i := 3) rfl)).1) (hts _ (tb_ls _ (List.mem_of_getElem? (i := 3) rfl)).2) (FB _ fl_s4) hA

/-! THE START: what the tables say, as a world -/
theorem st_arr {s : State} {args : Array Value} {ty : FieldType} (h : (Cond.arrayClass ty).before args s = true) : ∃ c : ClassId, ArrOfT s c ty ∧ s.vm.findClass ("[" ++ ty.toString) = some c := by
  obtain ⟨c, k, comp, h1, h2, h3⟩ := Cond.arrayClass_spec h
  exact ⟨c, fun n z => ⟨fun k h => (by cases h), k, h2, comp, h3⟩, h1⟩
theorem st_obj {s : State} {args : Array Value} {C : String} (h : (Cond.arrayOver (.object C)).before args s = true) : ∃ c : ClassId, ArrOfT s c (.object C) ∧ va_RA s c (.object C) := by
  obtain ⟨comp, c, k, h1, -, h2, h3, h4⟩ := Cond.arrayOver_spec h
  exact ⟨c, fun n z => ⟨fun k h => (by cases h), k, h2, comp, h3⟩, k, comp, h2, h3, h1, h4⟩
theorem st_arr2 {s : State} {args : Array Value} {ty : FieldType} (h : (Cond.arrayOver (.array ty)).before args s = true) : ∃ c : ClassId, ArrOfT s c (.array ty) ∧ s.vm.findClass ("[" ++ (FieldType.array ty).toString) = some c := by
  obtain ⟨comp, c, k, h1, -, h2, h3, h4⟩ := arrayOverA_spec h
  exact ⟨c, fun n z => ⟨fun k h => (by cases h), k, h2, comp, h3⟩, h4⟩
theorem st_K {D : va_G} {s : State} (hc : ∀ (c : Nat) (q : vw_C), vwCl[c]? = some q → u_Kn s q.1 q.2.1 q.2.2 (D.1 c) (D.2 c)) {tys : List (ClassId × FieldType)} (h : ∀ q ∈ tys, ArrOfT s q.1 q.2 ∧ va_RA s q.1 q.2) : va_K D vwCl tys s := ⟨hc, fun k q hk => h q (List.mem_of_getElem? hk)⟩
theorem st_str {s : State} {args : Array Value} {own tx : String} {k : Nat} (h1 : (Cond.stringRef own k tx).before args s = true) (h2 : (Cond.exactly (.string own k) "java/lang/String").before args s = true) : ∃ a : Nat, vk_R own k tx a s := by
  obtain ⟨a, c, cA, kA, q1, -⟩ := Cond.exactly_spec (args := args) (first := s) (o := none) (s := s) (idx := []) (t := .string own k) (cls := "java/lang/String") h2
  exact ⟨a, vk_R.of (A := args) h1 q1⟩
set_option maxHeartbeats 4000000 in
set_option maxRecDepth 100000 in
theorem st_world {s : State} {b : Addr} (hts : ∀ w ∈ lw_tbl, w.before #[Value.ref b] s = true) (hgv : (Jvm.Cond.and given_1 narrow_1).before #[Value.ref b] s = true) : ∃ (D : va_G) (d : hs_Dm) (cB cL : ClassId), va_K D vwCl (hs_ty d) s ∧ va_K D vwCl [(d.1, .int), (cB, .array .int)] s ∧ va_K D vwCl [(cB, .array .int)] s ∧ va_K D vwCl [(cL, .long)] s ∧ hx_E d.2.2.2.2 (fun q => s.heap.size ≤ q) s ∧ (va_AO "Waxrow$Person" s ∧ va_AO "Waxrow$Figure" s ∧ va_AO "Waxrow$Room" s) ∧ va_AOA .int s ∧ va_Nw (.methodLinkNest RX6 9 yX5_init RX6) s := by
  have hs := flat_of_before _ hgv
  have hA : ∀ a : Nat, a < s.heap.size → ¬ (fun q : Nat => s.heap.size ≤ q) a := fun a h => Nat.not_le.mpr h
  obtain ⟨c0, i0, k0⟩ := u_known (C := RX0) (T := TX0) (N := 11) (n := 11) hts inX0 (hts (.instantiable RX0 11) (by decide +kernel))
  obtain ⟨c1, i1, k1⟩ := u_known (C := RX1) (T := TX1) (N := 11) (n := 11) hts inX1 (hts (.instantiable RX1 11) (by decide +kernel))
  obtain ⟨c2, i2, k2⟩ := u_known (C := RX2) (T := TX2) (N := 8) (n := 8) hts inX2 (hts (.instantiable RX2 8) (by decide +kernel))
  obtain ⟨c3, i3, k3⟩ := u_known (C := RX3) (T := TX3) (N := 2) (n := 2) hts inX3 (hts (.instantiable RX3 2) (by decide +kernel))
  obtain ⟨c4, i4, k4⟩ := u_known (C := RX4) (T := TX4) (N := 2) (n := 2) hts inX4 (hts (.instantiable RX4 2) (by decide +kernel))
  obtain ⟨c5, i5, k5⟩ := u_known (C := RX5) (T := TX5) (N := 14) (n := 14) hts inX5 (hts (.instantiable RX5 14) (by decide +kernel))
  obtain ⟨c6, i6, k6⟩ := u_known (C := RX6) (T := TX6) (N := 2) (n := 2) hts inX6 (hts (.instantiable RX6 2) (by decide +kernel))
  obtain ⟨D, hKc⟩ : ∃ D : va_G, ∀ (k : Nat) (q : vw_C), vwCl[k]? = some q → u_Kn s q.1 q.2.1 q.2.2 (D.1 k) (D.2 k) := by
    refine ⟨(fun k => match k with | 0 => c0 | 1 => c1 | 2 => c2 | 3 => c3 | 4 => c4 | 5 => c5 | _ => c6, fun k => match k with | 0 => i0 | 1 => i1 | 2 => i2 | 3 => i3 | 4 => i4 | 5 => i5 | _ => i6), ?_⟩
    intro k q hq
    match k, hq with
    | 0, hq => cases hq; exact k0
    | 1, hq => cases hq; exact k1
    | 2, hq => cases hq; exact k2
    | 3, hq => cases hq; exact k3
    | 4, hq => cases hq; exact k4
    | 5, hq => cases hq; exact k5
    | 6, hq => cases hq; exact k6
    | k + 7, hq => simp [vwCl] at hq
  obtain ⟨cI, a1, a2⟩ := st_arr (hts (.arrayClass .int) (by decide +kernel))
  obtain ⟨cL, b1, b2⟩ := st_arr (hts (.arrayClass .long) (by decide +kernel))
  have hoP := hts (.arrayOver (.object "Waxrow$Person")) (by decide +kernel)
  have hoF := hts (.arrayOver (.object "Waxrow$Figure")) (by decide +kernel)
  have hoR := hts (.arrayOver (.object "Waxrow$Room")) (by decide +kernel)
  have hoA := hts (.arrayOver (.array .int)) (by decide +kernel)
  obtain ⟨cP, p1, p2⟩ := st_obj hoP
  obtain ⟨cF, f1, f2⟩ := st_obj hoF
  obtain ⟨cR, r1, r2⟩ := st_obj hoR
  obtain ⟨cB, e1, e2⟩ := st_arr2 hoA
  obtain ⟨tw, htw, hT⟩ := va_Tof (args := #[Value.ref b]) (s := s) (tm := .static "Waxrow" "WORK_OF_STEP" "[I") (ty := .int) (N := 6) (f := fun j => .int (hs_wk j)) (A := fun q : Nat => s.heap.size ≤ q) (by decide) (hs (.arrayOf (.static "Waxrow" "WORK_OF_STEP" "[I") .int) (by decide +kernel)) (va_eqt (hs (.eq (.length (.static "Waxrow" "WORK_OF_STEP" "[I")) (.int 6)) (by decide +kernel))) (fun j hj => by
    match j, hj with
    | 0, _ => exact va_eqt (hs (.eq (.elem (.static "Waxrow" "WORK_OF_STEP" "[I") (.int 0)) (.int 4)) (by decide +kernel))
    | 1, _ => exact va_eqt (hs (.eq (.elem (.static "Waxrow" "WORK_OF_STEP" "[I") (.int 1)) (.int 10)) (by decide +kernel))
    | 2, _ => exact va_eqt (hs (.eq (.elem (.static "Waxrow" "WORK_OF_STEP" "[I") (.int 2)) (.int 3)) (by decide +kernel))
    | 3, _ => exact va_eqt (hs (.eq (.elem (.static "Waxrow" "WORK_OF_STEP" "[I") (.int 3)) (.int 2)) (by decide +kernel))
    | 4, _ => exact va_eqt (hs (.eq (.elem (.static "Waxrow" "WORK_OF_STEP" "[I") (.int 4)) (.int 12)) (by decide +kernel))
    | 5, _ => exact va_eqt (hs (.eq (.elem (.static "Waxrow" "WORK_OF_STEP" "[I") (.int 5)) (.int 5)) (by decide +kernel))
    | j + 6, hj => exact absurd hj (by omega)) hA
  obtain ⟨g1, hg1⟩ := st_str (hts (.stringRef RX4 281 "there is none of this number") (by decide +kernel)) (hs (.exactly (.string RX4 281) "java/lang/String") (by decide +kernel))
  obtain ⟨g2, hg2⟩ := st_str (hts (.stringRef RX4 284 "a value is outside its bounds") (by decide +kernel)) (hs (.exactly (.string RX4 284) "java/lang/String") (by decide +kernel))
  obtain ⟨g3, hg3⟩ := st_str (hts (.stringRef RX4 288 "this cannot be done now") (by decide +kernel)) (hs (.exactly (.string RX4 288) "java/lang/String") (by decide +kernel))
  have hE : hs_E tw (fun q : Nat => s.heap.size ≤ q) s := ⟨va_Nw.of rfl (hts (.methodLinkNest RX1 87 yX4_checkIndex RX4) (by decide +kernel)), va_Nw.of rfl (hts (.methodLinkNest RX1 35 yX3_init RX4) (by decide +kernel)), va_Nw.of rfl (hts (.fieldLinkNest RX0 46 "Waxrow" "WORK_OF_STEP" "[I" "Waxrow") (by decide +kernel)), va_Zref (hts (.laysStatic "Waxrow" "WORK_OF_STEP" "[I") (by decide +kernel)) (hts (.initialized "Waxrow") (by decide +kernel)) htw hA, hT⟩
  have hU : vx_Zq Bundle.tN "UNASSIGNED_STACK" Bundle.steD (fun q : Nat => s.heap.size ≤ q) s s.heap := vx_Zqof (hts (.laysStatic Bundle.tN "UNASSIGNED_STACK" Bundle.steD) (by decide +kernel)) (hts (.initialized Bundle.tN) (by decide +kernel)) (hs (.isRef (.static Bundle.tN "UNASSIGNED_STACK" Bundle.steD)) (by decide +kernel)) hA
  have hN : vx_Zq Bundle.tN "SUPPRESSED_SENTINEL" Bundle.listD (fun q : Nat => s.heap.size ≤ q) s s.heap := vx_Zqof (hts (.laysStatic Bundle.tN "SUPPRESSED_SENTINEL" Bundle.listD) (by decide +kernel)) (hts (.initialized Bundle.tN) (by decide +kernel)) (hs (.isRef (.static Bundle.tN "SUPPRESSED_SENTINEL" Bundle.listD)) (by decide +kernel)) hA
  have w1 := hts (.declares ⟨"java/lang/RuntimeException", "<init>", "(Ljava/lang/String;)V"⟩) (by decide +kernel)
  have w2 := hts (.declares ⟨"java/lang/Exception", "<init>", "(Ljava/lang/String;)V"⟩) (by decide +kernel)
  have w3 := hts (.declares ⟨"java/lang/Throwable", "<init>", "(Ljava/lang/String;)V"⟩) (by decide +kernel)
  have w4 := hts (.castable "java/lang/IndexOutOfBoundsException" "java/lang/IndexOutOfBoundsException") (by decide +kernel)
  have w5 := hts (.castable "java/lang/IllegalArgumentException" "java/lang/IllegalArgumentException") (by decide +kernel)
  have w6 := hts (.castable "java/lang/IllegalStateException" "java/lang/IllegalStateException") (by decide +kernel)
  refine ⟨D, (cI, cP, cF, cR, tw), cB, cL, st_K hKc (fun q hq => ?_), st_K hKc (fun q hq => ?_), st_K hKc (fun q hq => ?_), st_K hKc (fun q hq => ?_), ⟨hE, ⟨hU, hN⟩, ⟨va_Nw.of rfl w1, va_Nw.of rfl w2, va_Nw.of rfl w3⟩, ⟨va_Nw.of rfl w4, va_Nw.of rfl w5, va_Nw.of rfl w6⟩, ⟨g1, hg1⟩, ⟨g2, hg2⟩, ⟨g3, hg3⟩⟩, ⟨va_AO.of hoP, va_AO.of hoF, va_AO.of hoR⟩, hoA, va_Nw.of rfl (hts (.methodLinkNest RX6 9 yX5_init RX6) (by decide +kernel))⟩
  · rcases List.mem_cons.mp hq with rfl | hq
    · exact ⟨a1, a2⟩
    rcases List.mem_cons.mp hq with rfl | hq
    · exact ⟨p1, p2⟩
    rcases List.mem_cons.mp hq with rfl | hq
    · exact ⟨f1, f2⟩
    rcases List.mem_cons.mp hq with rfl | hq
    · exact ⟨r1, r2⟩
    · cases hq
  · rcases List.mem_cons.mp hq with rfl | hq
    · exact ⟨a1, a2⟩
    rcases List.mem_cons.mp hq with rfl | hq
    · exact ⟨e1, e2⟩
    · cases hq
  · rcases List.mem_cons.mp hq with rfl | hq
    · exact ⟨e1, e2⟩
    · cases hq
  · rcases List.mem_cons.mp hq with rfl | hq
    · exact ⟨b1, b2⟩
    · cases hq
theorem st_N {s : State} {b : Addr} (hts : ∀ w ∈ lw_tbl, w.before #[Value.ref b] s = true) (hgv : (Jvm.Cond.and given_1 narrow_1).before #[Value.ref b] s = true) : hl_N s := by
  have hs := flat_of_before _ hgv
  exact ⟨va_Nc.of (hs (.not (.castable "java/lang/IllegalArgumentException" "java/lang/IndexOutOfBoundsException")) (by decide +kernel)), va_Nc.of (hs (.not (.castable "java/lang/IllegalStateException" "java/lang/IndexOutOfBoundsException")) (by decide +kernel)), va_Nc.of (hs (.not (.castable "java/lang/IllegalStateException" "java/lang/IllegalArgumentException")) (by decide +kernel)), st_str (hts (.stringRef RX4 115 "a figure cannot swap heads with itself") (by decide +kernel)) (hs (.exactly (.string RX4 115) "java/lang/String") (by decide +kernel))⟩
theorem st_M {s : State} {b : Addr} {D : va_G} {d : hs_Dm} {cB : ClassId} (hts : ∀ w ∈ lw_tbl, w.before #[Value.ref b] s = true) (hK : va_K D vwCl (hs_ty d) s) (hK2 : va_K D vwCl [(d.1, .int), (cB, .array .int)] s) (hAA : va_AOA .int s) (hNw : va_Nw (.methodLinkNest RX6 9 yX5_init RX6) s) : mh_K D d cB s := ⟨hK, hK2, va_Nw.of rfl (hts (.methodLinkNest RX5 92 yX6_in RX6) (by decide +kernel)), va_Nw.of rfl (hts (.methodLinkNest RX5 99 yX6_held RX6) (by decide +kernel)), va_Nw.of rfl (hts (.methodLinkNest RX5 107 yX6_needs RX6) (by decide +kernel)), hAA, hNw⟩

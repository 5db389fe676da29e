/-! ===== what the start gives ===== -/
section ZSTART
variable {s : State} {args : Array Value}
theorem sa_p {ty : FieldType} (h : (Cond.arrayClass ty).before args s = true) : ∃ c : ClassId, ArrOfT s c ty ∧ s.vm.findClass ("[" ++ ty.toString) = some c := by
  obtain ⟨c, k, comp, h1, h2, h3⟩ := Cond.arrayClass_spec h
  exact ⟨c, fun n z => ⟨fun k h => (by cases h), k, h2, comp, h3⟩, h1⟩
theorem sa_q {C : String} (h : (Cond.arrayOver (.object C)).before args s = true) : ∃ c : ClassId, ArrOfT s c (.object C) ∧ va_RA s c (.object C) := by
  obtain ⟨comp, c, k, h1, h2, h3, h4, h5⟩ := Cond.arrayOver_spec h
  exact ⟨c, fun n z => ⟨fun k h => (by cases h), k, h3, comp, h4⟩, k, comp, h3, h4, h1, h5⟩
end ZSTART
set_option maxRecDepth 20000 in
theorem ao_RX0 : Cond.arrayOver (.object RX0) ∈ lw_tbl := (zc1 (List.mem_of_getElem? (i := 97) rfl))
set_option maxRecDepth 20000 in
theorem ao_RX3 : Cond.arrayOver (.object RX3) ∈ lw_tbl := (zc1 (List.mem_of_getElem? (i := 99) rfl))
set_option maxRecDepth 20000 in
theorem ao_RX4 : Cond.arrayOver (.object RX4) ∈ lw_tbl := (zc1 (List.mem_of_getElem? (i := 101) rfl))
set_option maxRecDepth 20000 in
theorem ao_RX5 : Cond.arrayOver (.object RX5) ∈ lw_tbl := (zc2 (List.mem_of_getElem? (i := 2) rfl))
set_option maxRecDepth 20000 in
theorem ak_int : Cond.arrayClass .int ∈ lw_tbl := (zc1 (List.mem_of_getElem? (i := 73) rfl))
set_option maxRecDepth 20000 in
theorem ak_char : Cond.arrayClass .char ∈ lw_tbl := (zc1 (List.mem_of_getElem? (i := 47) rfl))
set_option maxRecDepth 20000 in
theorem sl_op : Cond.laysStatic "Daemonsheet" "OPERANDS" "[I" ∈ lw_tbl := (zc2 (List.mem_of_getElem? (i := 208) rfl))
set_option maxRecDepth 20000 in
theorem sl_cs : Cond.laysStatic "java/lang/String" "COMPACT_STRINGS" "Z" ∈ lw_tbl := (zc3 (List.mem_of_getElem? (i := 142) rfl))
set_option maxRecDepth 20000 in
theorem sl_us : Cond.laysStatic Bundle.tN "UNASSIGNED_STACK" Bundle.steD ∈ lw_tbl := (zc2 (List.mem_of_getElem? (i := 100) rfl))
set_option maxRecDepth 20000 in
theorem sl_ss : Cond.laysStatic Bundle.tN "SUPPRESSED_SENTINEL" Bundle.listD ∈ lw_tbl := (zc2 (List.mem_of_getElem? (i := 102) rfl))
set_option maxRecDepth 20000 in
theorem si_st : Cond.initialized "java/lang/String" ∈ lw_tbl := (zc1 (List.mem_of_getElem? (i := 15) rfl))
set_option maxRecDepth 20000 in
theorem si_th : Cond.initialized Bundle.tN ∈ lw_tbl := (zc1 (List.mem_of_getElem? (i := 10) rfl))
set_option maxRecDepth 20000 in
theorem si_ds : Cond.initialized "Daemonsheet" ∈ lw_tbl := (zc1 (List.mem_of_getElem? (i := 1) rfl))
set_option maxRecDepth 20000 in
theorem sr_66 : Cond.stringRef "Daemonsheet" 66 "no letter of formulas" ∈ lw_tbl := (zc3 (List.mem_of_getElem? (i := 220) rfl))
set_option maxRecDepth 20000 in
theorem sr_77 : Cond.stringRef "Daemonsheet" 77 "the text is full" ∈ lw_tbl := (zc3 (List.mem_of_getElem? (i := 231) rfl))
set_option maxRecDepth 20000 in
theorem sr_235 : Cond.stringRef "Daemonsheet" 235 "no such cell, reading or service" ∈ lw_tbl := (zc3 (List.mem_of_getElem? (i := 64) rfl))
set_option maxRecDepth 20000 in
theorem sr_95 : Cond.stringRef "Daemonsheet" 95 "the text is no formula" ∈ lw_tbl := (zc4 (List.mem_of_getElem? (i := 60) rfl))
set_option maxRecDepth 20000 in
theorem sr_113 : Cond.stringRef "Daemonsheet" 113 "the cell would hang on itself" ∈ lw_tbl := (zc4 (List.mem_of_getElem? (i := 87) rfl))
set_option maxRecDepth 20000 in
theorem sr_222 : Cond.stringRef "Daemonsheet" 222 "as many steps as may be are kept" ∈ lw_tbl := (zc4 (List.mem_of_getElem? (i := 92) rfl))
set_option maxRecDepth 20000 in
theorem sr_238 : Cond.stringRef "Daemonsheet" 238 "a number is out of range" ∈ lw_tbl := (zc4 (List.mem_of_getElem? (i := 195) rfl))
set_option maxRecDepth 20000 in
theorem sr_133 : Cond.stringRef "Daemonsheet" 133 "the cell is not held" ∈ lw_tbl := (zc4 (List.mem_of_getElem? (i := 203) rfl))
set_option maxRecDepth 20000 in
theorem sr_145 : Cond.stringRef "Daemonsheet" 145 "a service does not need itself" ∈ lw_tbl := (zc5 (List.mem_of_getElem? (i := 2) rfl))
set_option maxRecDepth 20000 in
theorem sr_156 : Cond.stringRef "Daemonsheet" 156 "the service is not cut" ∈ lw_tbl := (zc5 (List.mem_of_getElem? (i := 17) rfl))
set_option maxRecDepth 20000 in
theorem sr_161 : Cond.stringRef "Daemonsheet" 161 "behind the last tick" ∈ lw_tbl := (zc5 (List.mem_of_getElem? (i := 25) rfl))
set_option maxRecDepth 20000 in
theorem sr_163 : Cond.stringRef "Daemonsheet" 163 "no step is kept" ∈ lw_tbl := (zc2 (List.mem_of_getElem? (i := 114) rfl))
set_option maxRecDepth 20000 in
theorem sr_56 : Cond.stringRef "Daemonsheet" 56 "crlmni+-*<>=()," ∈ lw_tbl := (zc3 (List.mem_of_getElem? (i := 128) rfl))
abbrev zFl : List Cond := flatC (Jvm.Cond.and given_1 narrow_1)
set_option maxRecDepth 100000 in
set_option maxHeartbeats 4000000 in
theorem fl_op : Cond.arrayOf (.static "Daemonsheet" "OPERANDS" "[I") .int ∈ zFl ∧ Cond.eq (.length (.static "Daemonsheet" "OPERANDS" "[I")) (.int (Int32.ofNat 14)) ∈ zFl := by decide +kernel
set_option maxRecDepth 100000 in
set_option maxHeartbeats 4000000 in
theorem fl_ops : ∀ j : Nat, j < 14 → Cond.eq (.elem (.static "Daemonsheet" "OPERANDS" "[I") (.int (Int32.ofNat j))) (.int (nI (opsN j))) ∈ zFl := by decide +kernel
set_option maxRecDepth 100000 in
set_option maxHeartbeats 4000000 in
theorem fl_st : Cond.exactly (.string "Daemonsheet" 56) "java/lang/String" ∈ zFl ∧ Cond.eq (.field (.string "Daemonsheet" 56) "java/lang/String" "coder" "B") (.int 0) ∈ zFl ∧ Cond.arrayOf (.field (.string "Daemonsheet" 56) "java/lang/String" "value" "[B") .byte ∈ zFl ∧ Cond.eq (.length (.field (.string "Daemonsheet" 56) "java/lang/String" "value" "[B")) (.int (Int32.ofNat 15)) ∈ zFl := by decide +kernel
set_option maxRecDepth 100000 in
set_option maxHeartbeats 4000000 in
theorem fl_stb : ∀ j : Nat, j < 15 → Cond.eq (.elem (.field (.string "Daemonsheet" 56) "java/lang/String" "value" "[B") (.int (Int32.ofNat j))) (.int (ltrs.getD j 0)) ∈ zFl := by decide +kernel
set_option maxRecDepth 100000 in
set_option maxHeartbeats 4000000 in
theorem fl_ot : Cond.eq (.static "java/lang/String" "COMPACT_STRINGS" "Z") (.int 1) ∈ zFl ∧ Cond.isRef (.static Bundle.tN "UNASSIGNED_STACK" Bundle.steD) ∈ zFl ∧ Cond.isRef (.static Bundle.tN "SUPPRESSED_SENTINEL" Bundle.listD) ∈ zFl := by decide +kernel
set_option maxRecDepth 100000 in
set_option maxHeartbeats 4000000 in
theorem fl_nc : Cond.not (.castable "java/lang/IllegalArgumentException" "java/lang/IndexOutOfBoundsException") ∈ zFl ∧ Cond.not (.castable "java/lang/IllegalStateException" "java/lang/IndexOutOfBoundsException") ∈ zFl ∧ Cond.not (.castable "java/lang/IllegalStateException" "java/lang/IllegalArgumentException") ∈ zFl := by decide +kernel
set_option maxRecDepth 100000 in
set_option maxHeartbeats 4000000 in
theorem fl_sx : ∀ q, q ∈ zstrs → Cond.exactly (.string "Daemonsheet" q.1) "java/lang/String" ∈ zFl := by decide +kernel
theorem sr_all : ∀ q, q ∈ zstrs → Cond.stringRef "Daemonsheet" q.1 q.2 ∈ lw_tbl := by
  intro q hq
  simp only [zstrs, List.mem_cons, List.not_mem_nil, or_false] at hq
  rcases hq with rfl | rfl | rfl | rfl | rfl | rfl | rfl | rfl | rfl | rfl | rfl | rfl
  · exact sr_66
  · exact sr_77
  · exact sr_235
  · exact sr_95
  · exact sr_113
  · exact sr_222
  · exact sr_238
  · exact sr_133
  · exact sr_145
  · exact sr_156
  · exact sr_161
  · exact sr_163
set_option maxHeartbeats 1000000 in
theorem zEv_start {l : Launch} {s : State} {b : Nat} (hflags : l.flags = flags0) (hts : ∀ w ∈ lw_tbl, w.before #[Value.ref b] s = true) (hgv : (Jvm.Cond.and given_1 narrow_1).before #[Value.ref b] s = true) : ∃ Z : zZ, Z.1 = s ∧ zEv l Z := by
  have hfl := flat_of_before _ hgv
  obtain ⟨a0, a1, a2⟩ := sa_p (hts _ ak_int)
  obtain ⟨c0, c1, c2⟩ := sa_p (hts _ ak_char)
  obtain ⟨e0, e1, e2⟩ := sa_q (hts _ ao_RX0)
  obtain ⟨f0, f1, f2⟩ := sa_q (hts _ ao_RX3)
  obtain ⟨g0, g1, g2⟩ := sa_q (hts _ ao_RX4)
  obtain ⟨h0, h1, h2⟩ := sa_q (hts _ ao_RX5)
  have htz : ∀ w ∈ ztb, w.before #[Value.ref b] s = true := fun w hw => hts w (ztb_good w hw).1
  have hin : ∀ k, k < 9 → Cond.instantiable (zRX k) (znf k) ∈ ztb := fun k hk => by
    rcases (show k = 0 ∨ k = 1 ∨ k = 2 ∨ k = 3 ∨ k = 4 ∨ k = 5 ∨ k = 6 ∨ k = 7 ∨ k = 8 by omega) with rfl | rfl | rfl | rfl | rfl | rfl | rfl | rfl | rfl
    · exact inX0
    · exact inX1
    · exact inX2
    · exact inX3
    · exact inX4
    · exact inX5
    · exact inX6
    · exact inX7
    · exact inX8
  have hk : ∀ k : Nat, ∃ q : ClassId × (Nat → Nat), k < 9 → u_Kn s (zRX k) (zTX k) (znf k) q.1 q.2 := fun k => by
    by_cases hk : k < 9
    · obtain ⟨cC, iS, h⟩ := u_known htz (zlays k hk) (htz _ (hin k hk))
      exact ⟨(cC, iS), fun _ => h⟩
    · exact ⟨(0, fun _ => 0), fun h => absurd h hk⟩
  obtain ⟨D, hD⟩ := Classical.axiomOfChoice hk
  have hA : ∀ a : Nat, a < s.heap.size → ¬ (s.heap.size ≤ a) := fun a h => Nat.not_le.mpr h
  refine ⟨(s, (fun k => (D k).1, fun k => (D k).2), fun k => match k with
    | 0 => a0
    | 1 => a0
    | 2 => c0
    | 3 => a0
    | 4 => e0
    | 5 => f0
    | 6 => g0
    | _ => h0), rfl, ⟨fun w hw ho => va_Nw.of ho (hts w hw), ⟨fun k q hq => ?_, fun k q hq => ?_⟩, ?_, fun C hC => ?_⟩, ?_, ⟨?_, ?_, fun q hq => ?_⟩, ⟨?_, ?_, ?_⟩, ?_⟩
  · have hk10 : k < 9 := (List.getElem?_eq_some_iff.mp hq).1
    rw [zcl_at k hk10] at hq
    cases hq
    exact hD k hk10
  · have hk8 : k < 8 := by have := (List.getElem?_eq_some_iff.mp hq).1; simpa [ztys] using this
    rw [ztys_at _ hk8] at hq
    cases hq
    rcases (show k = 0 ∨ k = 1 ∨ k = 2 ∨ k = 3 ∨ k = 4 ∨ k = 5 ∨ k = 6 ∨ k = 7 by omega) with rfl | rfl | rfl | rfl | rfl | rfl | rfl | rfl
    · exact ⟨a1, a2⟩
    · exact ⟨a1, a2⟩
    · exact ⟨c1, c2⟩
    · exact ⟨a1, a2⟩
    · exact ⟨e1, e2⟩
    · exact ⟨f1, f2⟩
    · exact ⟨g1, g2⟩
    · exact ⟨h1, h2⟩
  · show (!l.flags.contains noTraceFlag) = false
    rw [hflags]
    decide +kernel
  · rcases hC with rfl | rfl | rfl | rfl
    · exact va_AO.of (hts _ ao_RX0)
    · exact va_AO.of (hts _ ao_RX3)
    · exact va_AO.of (hts _ ao_RX4)
    · exact va_AO.of (hts _ ao_RX5)
  · obtain ⟨t, ht, hT⟩ := va_Tof (f := fun j => .int (nI (opsN j))) (N := 14) (A := fun q => s.heap.size ≤ q) (by decide) (hfl _ fl_op.1) (va_eqt (hfl _ fl_op.2)) (fun j hj => va_eqt (hfl _ (fl_ops j hj))) hA
    exact ⟨t, va_Zof (hts _ sl_op) (hts _ si_ds) ht hA, hT⟩
  · exact vx_Zqof (hts _ sl_us) (hts _ si_th) (hfl _ fl_ot.2.1) hA
  · exact vx_Zqof (hts _ sl_ss) (hts _ si_th) (hfl _ fl_ot.2.2) hA
  · obtain ⟨a, c, cA, kA, q1, -⟩ := Cond.exactly_spec (args := #[Value.ref b]) (first := s) (o := none) (s := s) (idx := []) (t := .string "Daemonsheet" q.1) (cls := "java/lang/String") (hfl _ (fl_sx q hq))
    exact ⟨a, vk_R.of (A := #[Value.ref b]) (hts _ (sr_all q hq)) q1⟩
  · exact va_Nc.of (hfl _ fl_nc.1)
  · exact va_Nc.of (hfl _ fl_nc.2.1)
  · exact va_Nc.of (hfl _ fl_nc.2.2)
  · obtain ⟨adK, adV, h1, h2⟩ := vk_Sof (args := #[Value.ref b]) (s := s) (N := 1) (tm := fun _ => .string "Daemonsheet" 56) (len := [15]) (byt := [ltrs]) (A := fun q => s.heap.size ≤ q) (fun i hi => by rw [show i = 0 by omega]; decide) (fun i _ => hfl _ fl_st.1) (fun i _ => hfl _ fl_st.2.1) (fun i _ => hfl _ fl_st.2.2.1) (fun i hi => by rw [show i = 0 by omega]; exact hfl _ fl_st.2.2.2) (fun i hi j hj => by rw [show i = 0 by omega] at hj ⊢; exact hfl _ (fl_stb j hj)) (fun i j hi hj hij => absurd (show i = j by omega) hij) hA
    obtain ⟨o1, o2, o3, o4⟩ := h1.1 0 (by decide)
    exact ⟨adK 0, adV 0, vk_R.of (A := #[Value.ref b]) (hts _ sr_56) (h2 0 (by decide)), o1, o2, o3, o4, va_Zof (hts _ sl_cs) (hts _ si_st) (va_eqt (hfl _ fl_ot.1)) hA⟩

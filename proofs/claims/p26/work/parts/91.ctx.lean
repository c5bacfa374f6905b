/-! the law: what the tables and the start say of the machine -/
set_option maxRecDepth 20000 in
theorem i_wXB : ∀ w ∈ wXB, w ∈ lw_tbl := tblIn [189, 191, 193, 256, 189, 191, 193, 187, 189, 191, 193, 584] (by decide +kernel)
theorem arr_of {args : Array Value} {s : State} {ty : FieldType} (h : (Cond.arrayClass ty).before args s = true) : ∃ cA : ClassId, ArrOfT s cA ty ∧ s.vm.findClass ("[" ++ ty.toString) = some cA := by
  obtain ⟨cA, kA, comp, h1, h2, h3⟩ := Cond.arrayClass_spec h
  exact ⟨cA, fun n z => ⟨fun k h => (by cases h), kA, h2, comp, h3⟩, h1⟩
theorem arq_of {args : Array Value} {s : State} {C : String} (h : (Cond.arrayOver (.object C)).before args s = true) : ∃ cA : ClassId, ArrOfT s cA (.object C) ∧ va_RA s cA (.object C) := by
  obtain ⟨comp, cA, kA, h1, h2, h3, h4, h5⟩ := Cond.arrayOver_spec h
  exact ⟨cA, fun n z => ⟨fun k h => (by cases h), kA, h3, comp, h4⟩, kA, comp, h3, h4, h1, h5⟩
theorem str_of {args : Array Value} {s : State} {k : Nat} {tx : String} (h1 : (Cond.stringRef RX5 k tx).before args s = true) (h2 : (Cond.exactly (.string RX5 k) "java/lang/String").before args s = true) : ∃ a, vk_R RX5 k tx a s := by
  obtain ⟨a, c, cell, kk, ha, _⟩ := Cond.exactly_spec h2
  exact ⟨a, vk_R.of h1 ha⟩
set_option maxHeartbeats 4000000 in
set_option maxRecDepth 100000 in
/-- the launch's numbers -/
theorem law_K {args : Array Value} {s : State} (htb : ∀ w ∈ lw_tbl, w.before args s = true) : ∃ E : wE, wK E s ∧ va_AO RX3 s ∧ va_AO RX4 s := by
  obtain ⟨c0, i0, k0⟩ := u_known (C := RX0) (T := TX0) (N := 2) (n := 2) htb inX0 (htb (.instantiable RX0 2) (List.mem_of_getElem? (i := 142) (by decide +kernel)))
  obtain ⟨c1, i1, k1⟩ := u_known (C := RX1) (T := TX1) (N := 3) (n := 3) htb inX1 (htb (.instantiable RX1 3) (List.mem_of_getElem? (i := 104) (by decide +kernel)))
  obtain ⟨c2, i2, k2⟩ := u_known (C := RX2) (T := TX2) (N := 3) (n := 3) htb inX2 (htb (.instantiable RX2 3) (List.mem_of_getElem? (i := 124) (by decide +kernel)))
  obtain ⟨c3, i3, k3⟩ := u_known (C := RX3) (T := TX3) (N := 8) (n := 8) htb inX3 (htb (.instantiable RX3 8) (List.mem_of_getElem? (i := 50) (by decide +kernel)))
  obtain ⟨c4, i4, k4⟩ := u_known (C := RX4) (T := TX4) (N := 4) (n := 4) htb inX4 (htb (.instantiable RX4 4) (List.mem_of_getElem? (i := 43) (by decide +kernel)))
  obtain ⟨c5, i5, k5⟩ := u_known (C := RX5) (T := TX5) (N := 7) (n := 7) htb inX5 (htb (.instantiable RX5 7) (List.mem_of_getElem? (i := 35) (by decide +kernel)))
  obtain ⟨cI, aI, fI⟩ := arr_of (htb (.arrayClass .int) (List.mem_of_getElem? (i := 87) (by decide +kernel)))
  obtain ⟨cR, aR, fR⟩ := arq_of (htb (.arrayOver (.object RX3)) (List.mem_of_getElem? (i := 49) (by decide +kernel)))
  obtain ⟨cS, aS, fS⟩ := arq_of (htb (.arrayOver (.object RX4)) (List.mem_of_getElem? (i := 110) (by decide +kernel)))
  refine ⟨((fun k => match k with | 0 => c0 | 1 => c1 | 2 => c2 | 3 => c3 | 4 => c4 | _ => c5, fun k => match k with | 0 => i0 | 1 => i1 | 2 => i2 | 3 => i3 | 4 => i4 | _ => i5), cI, cR, cS), ⟨⟨?_, ?_⟩, fun w hw => va_Nw.of (wNest_tab hw) (htb w (i_wNest w hw))⟩, va_AO.of (htb (.arrayOver (.object RX3)) (List.mem_of_getElem? (i := 49) (by decide +kernel))), va_AO.of (htb (.arrayOver (.object RX4)) (List.mem_of_getElem? (i := 110) (by decide +kernel)))⟩
  · intro k q hq
    match k, hq with
    | 0, hq => cases hq; exact k0
    | 1, hq => cases hq; exact k1
    | 2, hq => cases hq; exact k2
    | 3, hq => cases hq; exact k3
    | 4, hq => cases hq; exact k4
    | 5, hq => cases hq; exact k5
    | k + 6, hq => simp at hq
  · intro k q hq
    match k, hq with
    | 0, hq => cases hq; exact ⟨aI, fI⟩
    | 1, hq => cases hq; exact ⟨aR, fR⟩
    | 2, hq => cases hq; exact ⟨aS, fS⟩
    | k + 3, hq => simp at hq
set_option maxHeartbeats 4000000 in
set_option maxRecDepth 100000 in
theorem law_dg {args : Array Value} {s : State} (htb : ∀ w ∈ lw_tbl, w.before args s = true) (hgv : (Jvm.Cond.and given_1 narrow_1).before args s = true) : dgP (lwA s) s s.heap := by
  have hq := flat_of_before _ hgv
  have hA0 : ∀ a : Nat, a < s.heap.size → ¬ lwA s a := fun a h => Nat.not_le_of_lt h
  have e0 := va_eqt (hq (.eq (.elem (.static "MixedBlocks" "DEGREES" "[I") (.int 0)) (.int 1)) (by decide +kernel))
  have e1 := va_eqt (hq (.eq (.elem (.static "MixedBlocks" "DEGREES" "[I") (.int 1)) (.int 1)) (by decide +kernel))
  have e2 := va_eqt (hq (.eq (.elem (.static "MixedBlocks" "DEGREES" "[I") (.int 2)) (.int 2)) (by decide +kernel))
  have e3 := va_eqt (hq (.eq (.elem (.static "MixedBlocks" "DEGREES" "[I") (.int 3)) (.int 2)) (by decide +kernel))
  have e4 := va_eqt (hq (.eq (.elem (.static "MixedBlocks" "DEGREES" "[I") (.int 4)) (.int 2)) (by decide +kernel))
  have e5 := va_eqt (hq (.eq (.elem (.static "MixedBlocks" "DEGREES" "[I") (.int 5)) (.int 2)) (by decide +kernel))
  have e6 := va_eqt (hq (.eq (.elem (.static "MixedBlocks" "DEGREES" "[I") (.int 6)) (.int 2)) (by decide +kernel))
  have e7 := va_eqt (hq (.eq (.elem (.static "MixedBlocks" "DEGREES" "[I") (.int 7)) (.int 3)) (by decide +kernel))
  have e8 := va_eqt (hq (.eq (.elem (.static "MixedBlocks" "DEGREES" "[I") (.int 8)) (.int 3)) (by decide +kernel))
  have e9 := va_eqt (hq (.eq (.elem (.static "MixedBlocks" "DEGREES" "[I") (.int 9)) (.int 3)) (by decide +kernel))
  have e10 := va_eqt (hq (.eq (.elem (.static "MixedBlocks" "DEGREES" "[I") (.int 10)) (.int 4)) (by decide +kernel))
  have e11 := va_eqt (hq (.eq (.elem (.static "MixedBlocks" "DEGREES" "[I") (.int 11)) (.int 4)) (by decide +kernel))
  have e12 := va_eqt (hq (.eq (.elem (.static "MixedBlocks" "DEGREES" "[I") (.int 12)) (.int 5)) (by decide +kernel))
  have e13 := va_eqt (hq (.eq (.elem (.static "MixedBlocks" "DEGREES" "[I") (.int 13)) (.int 6)) (by decide +kernel))
  have e14 := va_eqt (hq (.eq (.elem (.static "MixedBlocks" "DEGREES" "[I") (.int 14)) (.int 8)) (by decide +kernel))
  have e15 := va_eqt (hq (.eq (.elem (.static "MixedBlocks" "DEGREES" "[I") (.int 15)) (.int 12)) (by decide +kernel))
  obtain ⟨t, ht, hT⟩ := va_Tof (tm := (.static "MixedBlocks" "DEGREES" "[I")) (ty := .int) (N := 16) (f := fun j => .int (nI (degN j))) (by decide) (hq (.arrayOf (.static "MixedBlocks" "DEGREES" "[I") .int) (by decide +kernel)) (va_eqt (hq (.eq (.length (.static "MixedBlocks" "DEGREES" "[I")) (.int 16)) (by decide +kernel))) (fun j hj => by
    have h9 : j = 0 ∨ j = 1 ∨ j = 2 ∨ j = 3 ∨ j = 4 ∨ j = 5 ∨ j = 6 ∨ j = 7 ∨ j = 8 ∨ j = 9 ∨ j = 10 ∨ j = 11 ∨ j = 12 ∨ j = 13 ∨ j = 14 ∨ j = 15 := by omega
    rcases h9 with rfl | rfl | rfl | rfl | rfl | rfl | rfl | rfl | rfl | rfl | rfl | rfl | rfl | rfl | rfl | rfl
    · exact e0
    · exact e1
    · exact e2
    · exact e3
    · exact e4
    · exact e5
    · exact e6
    · exact e7
    · exact e8
    · exact e9
    · exact e10
    · exact e11
    · exact e12
    · exact e13
    · exact e14
    · exact e15) hA0
  exact ⟨t, va_Zof (htb (.laysStatic "MixedBlocks" "DEGREES" "[I") (List.mem_of_getElem? (i := 487) (by decide +kernel))) (htb (.initialized "MixedBlocks") (List.mem_of_getElem? (i := 19) (by decide +kernel))) ht hA0, hT⟩
set_option maxHeartbeats 4000000 in
set_option maxRecDepth 100000 in
theorem law_xE {args : Array Value} {s : State} (htb : ∀ w ∈ lw_tbl, w.before args s = true) (hgv : (Jvm.Cond.and given_1 narrow_1).before args s = true) : xE (lwA s) s s.heap := by
  have hq := flat_of_before _ hgv
  have hA0 : ∀ a : Nat, a < s.heap.size → ¬ lwA s a := fun a h => Nat.not_le_of_lt h
  refine ⟨fun w hw => va_Nw.of (wXB_tab hw) (htb w (i_wXB w hw)), ?_, vx_Zqof (htb (.laysStatic Bundle.tN "UNASSIGNED_STACK" Bundle.steD) (List.mem_of_getElem? (i := 212) (by decide +kernel))) (htb (.initialized Bundle.tN) (List.mem_of_getElem? (i := 25) (by decide +kernel))) (hq (.isRef (.static Bundle.tN "UNASSIGNED_STACK" Bundle.steD)) (by decide +kernel)) hA0, vx_Zqof (htb (.laysStatic Bundle.tN "SUPPRESSED_SENTINEL" Bundle.listD) (List.mem_of_getElem? (i := 214) (by decide +kernel))) (htb (.initialized Bundle.tN) (List.mem_of_getElem? (i := 25) (by decide +kernel))) (hq (.isRef (.static Bundle.tN "SUPPRESSED_SENTINEL" Bundle.listD)) (by decide +kernel)) hA0, law_dg htb hgv⟩
  exact List.forall_mem_cons.mpr ⟨str_of (htb (.stringRef RX5 54 "a file has 2 to 12 blocks") (List.mem_of_getElem? (i := 394) (by decide +kernel))) (hq (.exactly (.string RX5 54) "java/lang/String") (by decide +kernel)), List.forall_mem_cons.mpr ⟨str_of (htb (.stringRef RX5 218 "no such block") (List.mem_of_getElem? (i := 226) (by decide +kernel))) (hq (.exactly (.string RX5 218) "java/lang/String") (by decide +kernel)), List.forall_mem_cons.mpr ⟨str_of (htb (.stringRef RX5 74 "a block is 0 to 65535") (List.mem_of_getElem? (i := 263) (by decide +kernel))) (hq (.exactly (.string RX5 74) "java/lang/String") (by decide +kernel)), List.forall_mem_cons.mpr ⟨str_of (htb (.stringRef RX5 215 "no such receiver") (List.mem_of_getElem? (i := 325) (by decide +kernel))) (hq (.exactly (.string RX5 215) "java/lang/String") (by decide +kernel)), List.forall_mem_cons.mpr ⟨str_of (htb (.stringRef RX5 220 "a mix is 0 to 9999") (List.mem_of_getElem? (i := 477) (by decide +kernel))) (hq (.exactly (.string RX5 220) "java/lang/String") (by decide +kernel)), List.forall_mem_cons.mpr ⟨str_of (htb (.stringRef RX5 136 "no state is saved") (List.mem_of_getElem? (i := 591) (by decide +kernel))) (hq (.exactly (.string RX5 136) "java/lang/String") (by decide +kernel)), List.forall_mem_cons.mpr ⟨str_of (htb (.stringRef RX5 222 "what is out of range") (List.mem_of_getElem? (i := 333) (by decide +kernel))) (hq (.exactly (.string RX5 222) "java/lang/String") (by decide +kernel)), List.forall_mem_cons.mpr ⟨str_of (htb (.stringRef RX5 163 "a place is not below 0") (List.mem_of_getElem? (i := 512) (by decide +kernel))) (hq (.exactly (.string RX5 163) "java/lang/String") (by decide +kernel)), List.forall_mem_cons.mpr ⟨str_of (htb (.stringRef RX5 183 "the first mix is 0 to 9899") (List.mem_of_getElem? (i := 613) (by decide +kernel))) (hq (.exactly (.string RX5 183) "java/lang/String") (by decide +kernel)), fun _ h => absurd h List.not_mem_nil⟩⟩⟩⟩⟩⟩⟩⟩⟩

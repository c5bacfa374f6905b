/-! the law: what the tables and the start say of the machine -/
set_option maxRecDepth 20000 in
theorem i_wXB : ∀ w ∈ wXB, w ∈ lw_tbl := tblIn [465, 467, 469, 463, 465, 467, 469, 570, 465, 467, 469, 645] (by decide +kernel)
set_option maxRecDepth 20000 in
theorem i_wNest : ∀ w ∈ wNest, w ∈ lw_tbl := tblIn [97, 98, 100, 104, 106, 108, 110, 130, 133, 156, 190, 324, 327, 339, 340, 361, 374, 381, 390, 398, 541] (by decide +kernel)
theorem arr_of {args : Array Value} {s : State} {ty : FieldType} (h : (Cond.arrayClass ty).before args s = true) : ∃ cA : ClassId, ArrOfT s cA ty ∧ s.vm.findClass ("[" ++ ty.toString) = some cA := by
  obtain ⟨cA, kA, comp, h1, h2, h3⟩ := Cond.arrayClass_spec h
  exact ⟨cA, fun n z => ⟨fun k h => (by cases h), kA, h2, comp, h3⟩, h1⟩
theorem arq_of {args : Array Value} {s : State} {C : String} (h : (Cond.arrayOver (.object C)).before args s = true) : ∃ cA : ClassId, ArrOfT s cA (.object C) ∧ va_RA s cA (.object C) := by
  obtain ⟨comp, cA, kA, h1, h2, h3, h4, h5⟩ := Cond.arrayOver_spec h
  exact ⟨cA, fun n z => ⟨fun k h => (by cases h), kA, h3, comp, h4⟩, kA, comp, h3, h4, h1, h5⟩
theorem str_of {args : Array Value} {s : State} {k : Nat} {tx : String} (h1 : (Cond.stringRef RX5 k tx).before args s = true) (h2 : (Cond.exactly (.string RX5 k) "java/lang/String").before args s = true) : ∃ a, vk_R RX5 k tx a s := by
  obtain ⟨a, c, cell, kk, ha, _⟩ := Cond.exactly_spec h2
  exact ⟨a, vk_R.of h1 ha⟩
/-- the launch's numbers; what the machine is -/
def lawK (s : State) (E : wE) (cL cD : ClassId) : Prop := wK E s ∧ va_K E.1 [] (tysL cL cD) s ∧ va_AO RX3 s ∧ va_AO RX4 s
set_option maxHeartbeats 4000000 in
set_option maxRecDepth 100000 in
theorem law_K {args : Array Value} {s : State} (htb : ∀ w ∈ lw_tbl, w.before args s = true) : ∃ (E : wE) (cL cD : ClassId), lawK s E cL cD := by
  obtain ⟨c0, i0, k0⟩ := u_known (C := RX0) (T := TX0) (N := 2) (n := 2) htb inX0 (htb (.instantiable RX0 2) (List.mem_of_getElem? (i := 183) (by decide +kernel)))
  obtain ⟨c1, i1, k1⟩ := u_known (C := RX1) (T := TX1) (N := 3) (n := 3) htb inX1 (htb (.instantiable RX1 3) (List.mem_of_getElem? (i := 145) (by decide +kernel)))
  obtain ⟨c2, i2, k2⟩ := u_known (C := RX2) (T := TX2) (N := 3) (n := 3) htb inX2 (htb (.instantiable RX2 3) (List.mem_of_getElem? (i := 165) (by decide +kernel)))
  obtain ⟨c3, i3, k3⟩ := u_known (C := RX3) (T := TX3) (N := 8) (n := 8) htb inX3 (htb (.instantiable RX3 8) (List.mem_of_getElem? (i := 91) (by decide +kernel)))
  obtain ⟨c4, i4, k4⟩ := u_known (C := RX4) (T := TX4) (N := 4) (n := 4) htb inX4 (htb (.instantiable RX4 4) (List.mem_of_getElem? (i := 84) (by decide +kernel)))
  obtain ⟨c5, i5, k5⟩ := u_known (C := RX5) (T := TX5) (N := 7) (n := 7) htb inX5 (htb (.instantiable RX5 7) (List.mem_of_getElem? (i := 76) (by decide +kernel)))
  obtain ⟨c6, i6, k6⟩ := u_known (C := RX6) (T := TX6) (N := 11) (n := 11) htb inX6 (htb (.instantiable RX6 11) (List.mem_of_getElem? (i := 781) (by decide +kernel)))
  obtain ⟨cI, aI, fI⟩ := arr_of (htb (.arrayClass .int) (List.mem_of_getElem? (i := 128) (by decide +kernel)))
  obtain ⟨cL, aL, fL⟩ := arr_of (htb (.arrayClass .long) (List.mem_of_getElem? (i := 1086) (by decide +kernel)))
  obtain ⟨cD, aD, fD⟩ := arr_of (htb (.arrayClass .double) (List.mem_of_getElem? (i := 1087) (by decide +kernel)))
  obtain ⟨cR, aR, fR⟩ := arq_of (htb (.arrayOver (.object RX3)) (List.mem_of_getElem? (i := 90) (by decide +kernel)))
  obtain ⟨cS, aS, fS⟩ := arq_of (htb (.arrayOver (.object RX4)) (List.mem_of_getElem? (i := 151) (by decide +kernel)))
  refine ⟨((fun k => match k with | 0 => c0 | 1 => c1 | 2 => c2 | 3 => c3 | 4 => c4 | 5 => c5 | _ => c6, fun k => match k with | 0 => i0 | 1 => i1 | 2 => i2 | 3 => i3 | 4 => i4 | 5 => i5 | _ => i6), cI, cR, cS), cL, cD, ⟨⟨?_, ?_⟩, fun w hw => va_Nw.of (wNest_tab hw) (htb w (i_wNest w hw))⟩, ⟨fun k q hk => by simp at hk, ?_⟩, va_AO.of (htb (.arrayOver (.object RX3)) (List.mem_of_getElem? (i := 90) (by decide +kernel))), va_AO.of (htb (.arrayOver (.object RX4)) (List.mem_of_getElem? (i := 151) (by decide +kernel)))⟩
  · intro k q hq
    match k, hq with
    | 0, hq => cases hq; exact k0
    | 1, hq => cases hq; exact k1
    | 2, hq => cases hq; exact k2
    | 3, hq => cases hq; exact k3
    | 4, hq => cases hq; exact k4
    | 5, hq => cases hq; exact k5
    | 6, hq => cases hq; exact k6
    | k + 7, hq => simp at hq
  · intro k q hq
    match k, hq with
    | 0, hq => cases hq; exact ⟨aI, fI⟩
    | 1, hq => cases hq; exact ⟨aR, fR⟩
    | 2, hq => cases hq; exact ⟨aS, fS⟩
    | k + 3, hq => simp at hq
  · intro k q hq
    match k, hq with
    | 0, hq => cases hq; exact ⟨aL, fL⟩
    | 1, hq => cases hq; exact ⟨aD, fD⟩
    | k + 2, hq => simp at hq
set_option maxHeartbeats 4000000 in
set_option maxRecDepth 100000 in
theorem law_dg {args : Array Value} {s : State} (htb : ∀ w ∈ lw_tbl, w.before args s = true) (hgv : (Jvm.Cond.and given_1 narrow_1).before args s = true) : dgP (lwA s) s s.heap := by
  have hq := flat_of_before _ hgv
  have hA0 : ∀ a : Nat, a < s.heap.size → ¬ lwA s a := fun a h => Nat.not_le_of_lt h
  have e0 := va_eqt (hq (.eq (.elem (.static "MixedBlocks" "DEGREES" "[I") (.int 0)) (.int 1)) (by decide +kernel))
  have e1 := va_eqt (hq (.eq (.elem (.static "MixedBlocks" "DEGREES" "[I") (.int 1)) (.int 1)) (by decide +kernel))
  have e2 := va_eqt (hq (.eq (.elem (.static "MixedBlocks" "DEGREES" "[I") (.int 2)) (.int 2)) (by decide +kernel))
  have e3 := va_eqt (hq (.eq (.elem (.static "MixedBlocks" "DEGREES" "[I") (.int 3)) (.int 2)) (by decide +kernel))
  have e4 := va_eqt (hq (.eq (.elem (.static "MixedBlocks" "DEGREES" "[I") (.int 4)) (.int 2)) (by decide +kernel))
  have e5 := va_eqt (hq (.eq (.elem (.static "MixedBlocks" "DEGREES" "[I") (.int 5)) (.int 2)) (by decide +kernel))
  have e6 := va_eqt (hq (.eq (.elem (.static "MixedBlocks" "DEGREES" "[I") (.int 6)) (.int 2)) (by decide +kernel))
  have e7 := va_eqt (hq (.eq (.elem (.static "MixedBlocks" "DEGREES" "[I") (.int 7)) (.int 3)) (by decide +kernel))
  have e8 := va_eqt (hq (.eq (.elem (.static "MixedBlocks" "DEGREES" "[I") (.int 8)) (.int 3)) (by decide +kernel))
  have e9 := va_eqt (hq (.eq (.elem (.static "MixedBlocks" "DEGREES" "[I") (.int 9)) (.int 3)) (by decide +kernel))
  have e10 := va_eqt (hq (.eq (.elem (.static "MixedBlocks" "DEGREES" "[I") (.int 10)) (.int 4)) (by decide +kernel))
  have e11 := va_eqt (hq (.eq (.elem (.static "MixedBlocks" "DEGREES" "[I") (.int 11)) (.int 4)) (by decide +kernel))
  have e12 := va_eqt (hq (.eq (.elem (.static "MixedBlocks" "DEGREES" "[I") (.int 12)) (.int 5)) (by decide +kernel))
  have e13 := va_eqt (hq (.eq (.elem (.static "MixedBlocks" "DEGREES" "[I") (.int 13)) (.int 6)) (by decide +kernel))
  have e14 := va_eqt (hq (.eq (.elem (.static "MixedBlocks" "DEGREES" "[I") (.int 14)) (.int 8)) (by decide +kernel))
  have e15 := va_eqt (hq (.eq (.elem (.static "MixedBlocks" "DEGREES" "[I") (.int 15)) (.int 12)) (by decide +kernel))
  obtain ⟨t, ht, hT⟩ := va_Tof (tm := (.static "MixedBlocks" "DEGREES" "[I")) (ty := .int) (N := 16) (f := fun j => .int (nI (degN j))) (by decide) (hq (.arrayOf (.static "MixedBlocks" "DEGREES" "[I") .int) (by decide +kernel)) (va_eqt (hq (.eq (.length (.static "MixedBlocks" "DEGREES" "[I")) (.int 16)) (by decide +kernel))) (fun j hj => by
    have h9 : j = 0 ∨ j = 1 ∨ j = 2 ∨ j = 3 ∨ j = 4 ∨ j = 5 ∨ j = 6 ∨ j = 7 ∨ j = 8 ∨ j = 9 ∨ j = 10 ∨ j = 11 ∨ j = 12 ∨ j = 13 ∨ j = 14 ∨ j = 15 := by omega
    rcases h9 with rfl | rfl | rfl | rfl | rfl | rfl | rfl | rfl | rfl | rfl | rfl | rfl | rfl | rfl | rfl | rfl
    · exact e0
    · exact e1
    · exact e2
    · exact e3
    · exact e4
    · exact e5
    · exact e6
    · exact e7
    · exact e8
    · exact e9
    · exact e10
    · exact e11
    · exact e12
    · exact e13
    · exact e14
    · exact e15) hA0
  exact ⟨t, va_Zof (htb (.laysStatic "MixedBlocks" "DEGREES" "[I") (List.mem_of_getElem? (i := 375) (by decide +kernel))) (htb (.initialized "MixedBlocks") (List.mem_of_getElem? (i := 59) (by decide +kernel))) ht hA0, hT⟩
set_option maxHeartbeats 4000000 in
set_option maxRecDepth 100000 in
theorem law_xE {args : Array Value} {s : State} (htb : ∀ w ∈ lw_tbl, w.before args s = true) (hgv : (Jvm.Cond.and given_1 narrow_1).before args s = true) : xE (lwA s) s s.heap := by
  have hq := flat_of_before _ hgv
  have hA0 : ∀ a : Nat, a < s.heap.size → ¬ lwA s a := fun a h => Nat.not_le_of_lt h
  refine ⟨fun w hw => va_Nw.of (wXB_tab hw) (htb w (i_wXB w hw)), ?_, vx_Zqof (htb (.laysStatic Bundle.tN "UNASSIGNED_STACK" Bundle.steD) (List.mem_of_getElem? (i := 488) (by decide +kernel))) (htb (.initialized Bundle.tN) (List.mem_of_getElem? (i := 66) (by decide +kernel))) (hq (.isRef (.static Bundle.tN "UNASSIGNED_STACK" Bundle.steD)) (by decide +kernel)) hA0, vx_Zqof (htb (.laysStatic Bundle.tN "SUPPRESSED_SENTINEL" Bundle.listD) (List.mem_of_getElem? (i := 490) (by decide +kernel))) (htb (.initialized Bundle.tN) (List.mem_of_getElem? (i := 66) (by decide +kernel))) (hq (.isRef (.static Bundle.tN "SUPPRESSED_SENTINEL" Bundle.listD)) (by decide +kernel)) hA0, law_dg htb hgv⟩
  exact List.forall_mem_cons.mpr ⟨str_of (htb (.stringRef RX5 54 "a file has 2 to 12 blocks") (List.mem_of_getElem? (i := 502) (by decide +kernel))) (hq (.exactly (.string RX5 54) "java/lang/String") (by decide +kernel)), List.forall_mem_cons.mpr ⟨str_of (htb (.stringRef RX5 218 "no such block") (List.mem_of_getElem? (i := 577) (by decide +kernel))) (hq (.exactly (.string RX5 218) "java/lang/String") (by decide +kernel)), List.forall_mem_cons.mpr ⟨str_of (htb (.stringRef RX5 74 "a block is 0 to 65535") (List.mem_of_getElem? (i := 585) (by decide +kernel))) (hq (.exactly (.string RX5 74) "java/lang/String") (by decide +kernel)), List.forall_mem_cons.mpr ⟨str_of (htb (.stringRef RX5 215 "no such receiver") (List.mem_of_getElem? (i := 601) (by decide +kernel))) (hq (.exactly (.string RX5 215) "java/lang/String") (by decide +kernel)), List.forall_mem_cons.mpr ⟨str_of (htb (.stringRef RX5 220 "a mix is 0 to 9999") (List.mem_of_getElem? (i := 620) (by decide +kernel))) (hq (.exactly (.string RX5 220) "java/lang/String") (by decide +kernel)), List.forall_mem_cons.mpr ⟨str_of (htb (.stringRef RX5 109 "a character code is 33 to 126") (List.mem_of_getElem? (i := 642) (by decide +kernel))) (hq (.exactly (.string RX5 109) "java/lang/String") (by decide +kernel)), List.forall_mem_cons.mpr ⟨str_of (htb (.stringRef RX5 113 "the buffer is full") (List.mem_of_getElem? (i := 652) (by decide +kernel))) (hq (.exactly (.string RX5 113) "java/lang/String") (by decide +kernel)), List.forall_mem_cons.mpr ⟨str_of (htb (.stringRef RX5 127 "the buffer is not complete mixes as a text") (List.mem_of_getElem? (i := 672) (by decide +kernel))) (hq (.exactly (.string RX5 127) "java/lang/String") (by decide +kernel)), List.forall_mem_cons.mpr ⟨str_of (htb (.stringRef RX5 136 "no state is saved") (List.mem_of_getElem? (i := 696) (by decide +kernel))) (hq (.exactly (.string RX5 136) "java/lang/String") (by decide +kernel)), List.forall_mem_cons.mpr ⟨str_of (htb (.stringRef RX5 222 "what is out of range") (List.mem_of_getElem? (i := 707) (by decide +kernel))) (hq (.exactly (.string RX5 222) "java/lang/String") (by decide +kernel)), List.forall_mem_cons.mpr ⟨str_of (htb (.stringRef RX5 163 "a place is not below 0") (List.mem_of_getElem? (i := 729) (by decide +kernel))) (hq (.exactly (.string RX5 163) "java/lang/String") (by decide +kernel)), List.forall_mem_cons.mpr ⟨str_of (htb (.stringRef RX5 183 "the first mix is 0 to 9899") (List.mem_of_getElem? (i := 765) (by decide +kernel))) (hq (.exactly (.string RX5 183) "java/lang/String") (by decide +kernel)), fun _ h => absurd h List.not_mem_nil⟩⟩⟩⟩⟩⟩⟩⟩⟩⟩⟩⟩
set_option maxHeartbeats 4000000 in
set_option maxRecDepth 100000 in
theorem law_xC {args : Array Value} {s : State} (htb : ∀ w ∈ lw_tbl, w.before args s = true) (hgv : (Jvm.Cond.and given_1 narrow_1).before args s = true) : xC s := by
  have hq := flat_of_before _ hgv
  exact ⟨va_Nw.of rfl (htb (.castable exA exA) (List.mem_of_getElem? (i := 463) (by decide +kernel))), va_Nw.of rfl (htb (.castable exB exB) (List.mem_of_getElem? (i := 570) (by decide +kernel))), va_Nw.of rfl (htb (.castable exS exS) (List.mem_of_getElem? (i := 645) (by decide +kernel))), va_Nc.of (hq (.not (.castable exA exB)) (by decide +kernel)), va_Nc.of (hq (.not (.castable exS exA)) (by decide +kernel))⟩
theorem hiS_lt {E : wE} {g : Nat → Nat} {zs : Nat → SS} {H : Heap} (h : hiS E g zs H) : ∀ j, 2 ≤ j → j < 74 → g j < H.size := by
  intro j h2 hj
  have h4 := stT_lt (h ((j - 2) / 12) (by omega)) ((j - 2) % 12) (by omega)
  have e : 2 + 12 * ((j - 2) / 12) + (j - 2) % 12 = j := by omega
  unfold hg at h4
  rw [e] at h4
  exact h4
theorem MB.lt {E : wE} {g : Nat → Nat} {ln : Nat} {bf : Nat → Int32} {z : SS} {ke : Nat} {hs : Nat → SS} {H : Heap} (h : MB E g ln bf z ke hs H) : ∀ k, k < 94 → g k < H.size := by
  obtain ⟨ol, zs, hr, hM, ⟨⟨pa, hPa⟩, ⟨el, hEl⟩, ⟨tli, tq, hTr⟩⟩, hN, hHi, hHs⟩ := h
  intro k hk
  by_cases h2 : k < 2
  · exact hM.lt h2
  by_cases h3 : k < 3
  · have := hPa.lt (k := 0) (by decide)
    have e : off g 2 0 = g k := by unfold off; congr 1; omega
    rw [← e]; exact this
  by_cases h5 : k < 5
  · have := hEl.lt (k := k - 3) (by omega)
    have e : off g 3 (k - 3) = g k := by unfold off; congr 1; omega
    rw [← e]; exact this
  by_cases h8 : k < 8
  · have := rcT_lt hTr (k - 5) (by omega)
    have e : off g 5 (k - 5) = g k := by unfold off; congr 1; omega
    rw [← e]; exact this
  by_cases h20 : k < 20
  · have := stT_lt hN (k - 8) (by omega)
    have e : off g 8 (k - 8) = g k := by unfold off; congr 1; omega
    rw [← e]; exact this
  by_cases h22 : k < 22
  · have := hHi.lt (k := k - 20) (by omega)
    have e : off g 20 (k - 20) = g k := by unfold off; congr 1; omega
    rw [← e]; exact this
  · have := hiS_lt hHs (k - 20) (by omega) (by omega)
    have e : off g 20 (k - 20) = g k := by unfold off; congr 1; omega
    rw [← e]; exact this
theorem MOB.lt {E : wE} {g : Nat → Nat} {th : Int32} {ln : Nat} {tx : Nat → Int32} {nb : Nat} {va : Nat → Int32} {se : Int32} {rc : Nat → MR} {ke : Nat} {hs : Nat → MS} {H : Heap} (h : MOB E g th ln tx nb va se rc ke hs H) : ∀ k, k < 6 → g k < H.size := by
  obtain ⟨sv, ai, wr, dg, ⟨aa, ro, rv, hP, hrv⟩, hr⟩ := h
  exact fun k hk => hP.lt hk
theorem MOB.keep {E : wE} {g : Nat → Nat} {th : Int32} {ln : Nat} {tx : Nat → Int32} {nb : Nat} {va : Nat → Int32} {se : Int32} {rc : Nat → MR} {ke : Nat} {hs : Nat → MS} {H H1 : Heap} (h : MOB E g th ln tx nb va se rc ke hs H) (hk : ∀ q : Nat, q < H.size → H1[q]? = H[q]?) : MOB E g th ln tx nb va se rc ke hs H1 := h.at (A := wN) (fun q hq _ => hk q hq) (fun _ _ z => z)
section WNL
variable {p : Program} {l : Launch} {e : Env} {R : Room} {s : State} {m : MethodId} {args : Array Value} {below : List Frame} {meth : Method} {c : Code} {H : Heap} {locs : List Loc} {cells slots : Nat} {Q : State → Prop} {cc : ByteArray} {pc : Nat} {ls : Array Slot} {rest : List Value} {A : Nat → Prop} {H0 : Heap} {D : va_G} {cL cD : ClassId}
theorem w_newL (hexec : p.tables.exec = Jvm.exec) (hb : c.code = cc) (harr : (Cond.arrayClass .long).before args s = true) (hKL : va_K D [] (tysL cL cD) s) (hS : va_S A H0 H locs) (hcells : cells + 1 ≤ R.cells) (hslots : slots + 1 ≤ R.slots) (hdg : decode cc pc = .ok (.newarray .long, 2))
    (kk : ∀ (H1 : Heap), oA cL H.size (.long 0) H1 → H1.size = H.size + 1 → (∀ q : Nat, q < H.size → H1[q]? = H[q]?) → va_S A H0 H1 locs → W p l e R s m args below meth c H1 locs (cells + 1) (slots + 1) Q (F0 m (pc + 2) ls (.ref H.size :: rest))) : W p l e R s m args below meth c H locs cells slots Q (F0 m pc ls (.int 1 :: rest)) := by
  refine va_newaK (atype := .long) hexec hb harr rfl hdg rfl (by decide) (N := 1) (by decide) (by decide) hcells hslots rfl fun H1 cA e1 z1 o1 hAr hNm => ?_
  have hc2 : s.vm.findClass ("[" ++ FieldType.long.toString) = some cL := (hKL.2 0 _ rfl).2
  have hc3 : cA = cL := Option.some.inj (hNm.symm.trans hc2)
  subst hc3
  exact kk H1 e1 z1 o1 ⟨Nat.le_trans hS.1 (by omega), fun x h1 h2 => (o1 x (Nat.lt_of_lt_of_le h1 hS.1)).trans (hS.2.1 x h1 h2), hS.2.2⟩
theorem w_newD (hexec : p.tables.exec = Jvm.exec) (hb : c.code = cc) (harr : (Cond.arrayClass .double).before args s = true) (hKL : va_K D [] (tysL cL cD) s) (hS : va_S A H0 H locs) (hcells : cells + 1 ≤ R.cells) (hslots : slots + 1 ≤ R.slots) (hdg : decode cc pc = .ok (.newarray .double, 2))
    (kk : ∀ (H1 : Heap), oA cD H.size (.double 0) H1 → H1.size = H.size + 1 → (∀ q : Nat, q < H.size → H1[q]? = H[q]?) → va_S A H0 H1 locs → W p l e R s m args below meth c H1 locs (cells + 1) (slots + 1) Q (F0 m (pc + 2) ls (.ref H.size :: rest))) : W p l e R s m args below meth c H locs cells slots Q (F0 m pc ls (.int 1 :: rest)) := by
  refine va_newaK (atype := .double) hexec hb harr rfl hdg rfl (by decide) (N := 1) (by decide) (by decide) hcells hslots rfl fun H1 cA e1 z1 o1 hAr hNm => ?_
  have hc2 : s.vm.findClass ("[" ++ FieldType.double.toString) = some cD := (hKL.2 1 _ rfl).2
  have hc3 : cA = cD := Option.some.inj (hNm.symm.trans hc2)
  subst hc3
  exact kk H1 e1 z1 o1 ⟨Nat.le_trans hS.1 (by omega), fun x h1 h2 => (o1 x (Nat.lt_of_lt_of_le h1 hS.1)).trans (hS.2.1 x h1 h2), hS.2.2⟩
end WNL

set_option maxHeartbeats 4000000 in
set_option maxRecDepth 100000 in
theorem c_X3_lookTogether (l : Launch) (E : wE) (g : Nat → Nat) (li : Bool) (kb : Int32) (al : Nat → Int32) (L : List Int32) (go tn lo : Int32) (g2 : Nat → Nat) (le : Nat → Int32) (ro : Int32) (hI : wI 3 g) (hJ : wI 2 g2) (hX : wX 3 g 2 g2)  : Met l yX3_lookTogether wsX3_lookTogether ({ frames := 3, cells := 0, slots := 0, locals := 64 }) (va_Pc [.ref ((g 0)), .ref ((g2 0))] (wS E 0 g (fun H => rcP E g li kb al L go tn lo H ∧ elP E g2 (le, ro) H))) (va_Qv (fun (_ : Unit) => True) (fun _ t => elP E g2 (lookS L) (t.heap)) (wF 2 g2)) 0 0 (wF 2 g2) := by
  refine Met.ofW (cc := cX3_lookTogether) (maxL := 3) (ret := none) (by decide) rfl ?_
  intro p e s m args below meth c s₁ B hml hv
  obtain ⟨rfl, ⟨⟨hln, lf, hlf, hP⟩, hE0⟩, hK, hI0⟩ := hv
  have hx := B.exec
  have hb := B.bytes
  have hr := B.returns
  have hts := atoms_spec (ws := wsX3_lookTogether) B.pre
  have hown : s.vm.findClass RX3 = some m.cls := findClass_of_methodNamed B.named
  have hlocks := B.notSynchronized
  have hS : va_S (wF 2 g2) s.heap s.heap [] := va_S.rf
  have hin3 : ∀ w ∈ wsX30, w ∈ wsX3_lookTogether := by decide +kernel
  have hl := lv_entry ([.ref ((g 0)), .ref ((g2 0))]) (n := 3) (Nat.le_of_ble_eq_true rfl)
  rw [lg_entry_eq]
  generalize (lg_sl ([.ref ((g 0)), .ref ((g2 0))]) ++ List.replicate (3 - (lg_sl ([.ref ((g 0)), .ref ((g2 0))])).length) Slot.unset).toArray = ls at hl ⊢
  have hl : lv_has ls 3 [(0, .ref ((g 0))), (1, .ref ((g2 0)))] := hl
  have hE : wP E 2 g2 (elF E g2 le ro) s.heap := hE0
  refine lv_aload_n hx hb dX3_lookTogether_0 rfl (lv_at hl 1 rfl) ?_
  refine va_callv (va_runV (As := []) (rest := []) ⟨hx, hb, hml, hown, hts⟩ (c_X0_begin l E g2 le ro ) (cwV 0 hts gX3_lookTogether_X0_begin rfl rfl rfl (by decide +kernel) ⟨Nat.le_of_ble_eq_true rfl, Nat.le_of_ble_eq_true rfl⟩) ⟨wS.blind, (w_recv hK hE 0 (by decide) rfl (ci := 0) rfl), fun U hU hW => wS.go hE hK hJ hU hW⟩ rfl rfl hl.1 rfl (lv_room (Nat.le_of_ble_eq_true rfl)) dX3_lookTogether_1 ⟨Nat.zero_le _, Nat.zero_le _⟩) hS (fun q _ h => h) (fun q h => h) (fun uu t H_1 locs_1 ht hvm hw hB hz1 hk1 hS => ?_)
  have hP := hP.other hk1 hX.out
  rw [ht] at hB
  have hE : wP E 2 g2 (elF E g2 (fun _ => 0) 0) H_1 := hB
  refine lv_iconst (v := 0) hx hb dX3_lookTogether_4 (by decide) ?_
  refine lv_istore_n (lv' := [(2, .int 0), (0, .ref ((g 0))), (1, .ref ((g2 0)))]) hx hb dX3_lookTogether_5 rfl hl (by decide) rfl (fun ls hl => ?_)
  have L6 : ∀ (k : Nat) (i : Nat) (q : ES) (H : Heap) (locs : List Loc) (ls : Array Slot), i + k = L.length → (L.drop i).foldl (fun q x => addS x q) q = lookS L → wP E 3 g (rcF E g li kb al lf L.length go tn lo) H → wP E 2 g2 (elF E g2 q.1 q.2) H → va_S (wF 2 g2) s.heap H locs → lv_has ls 3 [(2, .int (nI i)), (0, .ref ((g 0))), (1, .ref ((g2 0)))] → W p l e (headSpec wsX3_lookTogether ({ frames := 3, cells := 0, slots := 0, locals := 64 })).room s m ([.ref ((g 0)), .ref ((g2 0))] : List Value).toArray below meth c H locs 0 0 (MQ below (va_Qv (fun (_ : Unit) => True) (fun _ t => elP E g2 (lookS L) (t.heap)) (wF 2 g2)) ([.ref ((g 0)), .ref ((g2 0))] : List Value).toArray s 0 0 (wF 2 g2)) (F0 m 6 ls []) := by
    intro k
    induction k with
    | zero =>
      intro i q H locs ls hi hres hP hE hS hl
      refine lv_iload_n hx hb dX3_lookTogether_6 rfl (lv_at hl 0 rfl) ?_
      refine lv_aload_n hx hb dX3_lookTogether_7 rfl (lv_at hl 1 rfl) ?_
      refine w_get (C := RX3) (T := TX3) (N := 8) (ci := 3) (v := .int (nI L.length)) hx hb hts hin3 hown hK hP 0 (by decide) rfl rfl 4 (by decide) (hts (.fieldLink RX3 30 "MixedBlocks$Receiver" "waits" "I") (List.mem_of_getElem? (i := 1) rfl)) (fun _ h9 => h9) rfl dX3_lookTogether_8 ?_
      refine lv_icmp_ge (tgt := 39) hx hb dX3_lookTogether_11 (by decide) (fun c_2 => ?_) (fun c_2 => ?_)
      · have n_2 : L.length ≤ i := (nI_leI (a := L.length) (b := i) (by omega) (by omega)).mp c_2
        exact W.vret hx hb hr (fun t ht hW => ⟨⟨(), rfl, trivial, (by show elP E g2 (lookS L) t.heap; rw [← drop_end (by omega) hres, ht]; exact hE)⟩, hS.F ht⟩) hS.2.2 dX3_lookTogether_39
      · have n_2 : ¬ L.length ≤ i := fun z => c_2 ((nI_leI (a := L.length) (b := i) (by omega) (by omega)).mpr z)
        exfalso
        omega
    | succ k ih =>
      intro i q H locs ls hi hres hP hE hS hl
      refine lv_iload_n hx hb dX3_lookTogether_6 rfl (lv_at hl 0 rfl) ?_
      refine lv_aload_n hx hb dX3_lookTogether_7 rfl (lv_at hl 1 rfl) ?_
      refine w_get (C := RX3) (T := TX3) (N := 8) (ci := 3) (v := .int (nI L.length)) hx hb hts hin3 hown hK hP 0 (by decide) rfl rfl 4 (by decide) (hts (.fieldLink RX3 30 "MixedBlocks$Receiver" "waits" "I") (List.mem_of_getElem? (i := 1) rfl)) (fun _ h9 => h9) rfl dX3_lookTogether_8 ?_
      refine lv_icmp_ge (tgt := 39) hx hb dX3_lookTogether_11 (by decide) (fun c_3 => ?_) (fun c_3 => ?_)
      · have n_3 : L.length ≤ i := (nI_leI (a := L.length) (b := i) (by omega) (by omega)).mp c_3
        exfalso
        omega
      · have n_3 : ¬ L.length ≤ i := fun z => c_3 ((nI_leI (a := L.length) (b := i) (by omega) (by omega)).mpr z)
        refine lv_iload_n hx hb dX3_lookTogether_14 rfl (lv_at hl 0 rfl) ?_
        refine lv_aload_n hx hb dX3_lookTogether_15 rfl (lv_at hl 1 rfl) ?_
        refine w_get (C := RX3) (T := TX3) (N := 8) (ci := 3) (v := .ref ((g 2))) hx hb hts hin3 hown hK hP 0 (by decide) rfl rfl 3 (by decide) (hts (.fieldLink RX3 15 "MixedBlocks$Receiver" "left" "[I") (List.mem_of_getElem? (i := 2) rfl)) (fun _ h9 => h9) rfl dX3_lookTogether_16 ?_
        refine w_alen (v := 24) hx hb hK hP 2 (by decide) rfl rfl dX3_lookTogether_19 ?_
        refine lv_icmp_ge (tgt := 39) hx hb dX3_lookTogether_20 (by decide) (fun c_4 => ?_) (fun c_4 => ?_)
        · have n_4 : 24 ≤ i := (nI_leI (a := 24) (b := i) (by omega) (by omega)).mp c_4
          exfalso
          omega
        · have n_4 : ¬ 24 ≤ i := fun z => c_4 ((nI_leI (a := 24) (b := i) (by omega) (by omega)).mpr z)
          refine lv_aload_n hx hb dX3_lookTogether_23 rfl (lv_at hl 2 rfl) ?_
          refine lv_aload_n hx hb dX3_lookTogether_24 rfl (lv_at hl 1 rfl) ?_
          refine w_get (C := RX3) (T := TX3) (N := 8) (ci := 3) (v := .ref ((g 2))) hx hb hts hin3 hown hK hP 0 (by decide) rfl rfl 3 (by decide) (hts (.fieldLink RX3 15 "MixedBlocks$Receiver" "left" "[I") (List.mem_of_getElem? (i := 2) rfl)) (fun _ h9 => h9) rfl dX3_lookTogether_25 ?_
          refine lv_iload_n hx hb dX3_lookTogether_28 rfl (lv_at hl 0 rfl) ?_
          refine w_iald hx hb hK hP 2 (by decide) rfl (vp_in_nI (by omega) (by decide)) dX3_lookTogether_29 ?_
          rw [nI_clamp (by omega)]
          rw [hlf _ (by omega)]
          refine va_callv (va_runV (As := [.int ((L.getD i 0))]) (rest := []) ⟨hx, hb, hml, hown, hts⟩ (c_X0_add l E g2 q.1 q.2 (L.getD i 0)) (cwV 1 hts gX3_lookTogether_X0_add rfl rfl rfl (by decide +kernel) ⟨Nat.le_of_ble_eq_true rfl, Nat.le_of_ble_eq_true rfl⟩) ⟨wS.blind, (w_recv hK hE 0 (by decide) rfl (ci := 0) rfl), fun U hU hW => wS.go hE hK hJ hU hW⟩ rfl rfl hl.1 rfl (lv_room (Nat.le_of_ble_eq_true rfl)) dX3_lookTogether_30 ⟨Nat.zero_le _, Nat.zero_le _⟩) hS (fun q _ h => h) (fun q h => h) (fun uu t H_5 locs_5 ht hvm hw hB hz1 hk1 hS => ?_)
          have hP := hP.other hk1 hX.out
          rw [ht] at hB
          have hE : wP E 2 g2 (elF E g2 ((addS (L.getD i 0) q).1) ((addS (L.getD i 0) q).2)) H_5 := hB
          refine lv_iinc (v := (nI (i + 1))) (lv' := [(2, .int (nI (i + 1))), (0, .ref ((g 0))), (1, .ref ((g2 0)))]) hx hb dX3_lookTogether_33 hl (k := 0) rfl (nI_1 _) (by decide) rfl (fun ls hl => ?_)
          refine lv_goto (tgt := 6) hx hb dX3_lookTogether_36 (by decide) ?_
          exact ih (i + 1) (addS (L.getD i 0) q) _ _ ls (by omega) (drop_fold (by omega) hres) hP hE hS (lv_sub hl [0, 1, 2] rfl)
  exact L6 L.length 0 ((fun _ => 0), 0) _ _ ls (Nat.zero_add _) rfl hP hE hS (lv_sub hl [0, 1, 2] rfl)
set_option maxHeartbeats 4000000 in
set_option maxRecDepth 100000 in
theorem c_X3_rank (l : Launch) (E : wE) (g : Nat → Nat) (li : Bool) (kb : Int32) (al : Nat → Int32) (L : List Int32) (go tn lo : Int32) (g2 : Nat → Nat) (le : Nat → Int32) (ro : Int32) (hI : wI 3 g) (hJ : wI 2 g2) (hX : wX 3 g 2 g2)  : Met l yX3_rank wsX3_rank ({ frames := 4, cells := 0, slots := 0, locals := 86 }) (va_Pc [.ref ((g 0)), .ref ((g2 0))] (wS E 0 g (fun H => rcP E g li kb al L go tn lo H ∧ elP E g2 (le, ro) H))) (va_Qi (fun (r : Int32) (_ : Unit) => r = swar kb + (lookS L).2) (fun _ t => elP E g2 (lookS L) (t.heap)) (wF 2 g2)) 0 0 (wF 2 g2) := by
  refine Met.ofW (cc := cX3_rank) (maxL := 2) (ret := (some .int)) (by decide) rfl ?_
  intro p e s m args below meth c s₁ B hml hv
  obtain ⟨rfl, ⟨⟨hln, lf, hlf, hP⟩, hE0⟩, hK, hI0⟩ := hv
  have hx := B.exec
  have hb := B.bytes
  have hr := B.returns
  have hts := atoms_spec (ws := wsX3_rank) B.pre
  have hown : s.vm.findClass RX3 = some m.cls := findClass_of_methodNamed B.named
  have hlocks := B.notSynchronized
  have hS : va_S (wF 2 g2) s.heap s.heap [] := va_S.rf
  have hin0 : ∀ w ∈ wsX00, w ∈ wsX3_rank := by decide +kernel
  have hl := lv_entry ([.ref ((g 0)), .ref ((g2 0))]) (n := 2) (Nat.le_of_ble_eq_true rfl)
  rw [lg_entry_eq]
  generalize (lg_sl ([.ref ((g 0)), .ref ((g2 0))]) ++ List.replicate (2 - (lg_sl ([.ref ((g 0)), .ref ((g2 0))])).length) Slot.unset).toArray = ls at hl ⊢
  have hl : lv_has ls 2 [(0, .ref ((g 0))), (1, .ref ((g2 0)))] := hl
  have hE : wP E 2 g2 (elF E g2 le ro) s.heap := hE0
  refine lv_aload_n hx hb dX3_rank_0 rfl (lv_at hl 0 rfl) ?_
  refine lv_aload_n hx hb dX3_rank_1 rfl (lv_at hl 1 rfl) ?_
  refine va_callv (va_runV (As := [.ref ((g2 0))]) (rest := []) ⟨hx, hb, hml, hown, hts⟩ (c_X3_lookTogether l E g li kb al L go tn lo g2 le ro hI hJ hX) (cwV 1 hts gX3_rank_X3_lookTogether rfl rfl rfl (by decide +kernel) ⟨Nat.le_of_ble_eq_true rfl, Nat.le_of_ble_eq_true rfl⟩) ⟨wS.blind, (w_recv hK hP 0 (by decide) rfl (ci := 3) rfl), fun U hU hW => wS.go ⟨⟨hln, _, hlf, hP⟩, hE⟩ hK wI0 hU hW⟩ rfl rfl hl.1 rfl (lv_room (Nat.le_of_ble_eq_true rfl)) dX3_rank_2 ⟨Nat.zero_le _, Nat.zero_le _⟩) hS (fun q _ h => h) (fun q h => h) (fun uu t H_1 locs_1 ht hvm hw hB hz1 hk1 hS => ?_)
  have hP := hP.other hk1 hX.out
  rw [ht] at hB
  have hE : wP E 2 g2 (elF E g2 ((lookS L).1) ((lookS L).2)) H_1 := hB
  refine lv_aload_n hx hb dX3_rank_5 rfl (lv_at hl 0 rfl) ?_
  refine va_calli (va_runV (As := []) (rest := []) ⟨hx, hb, hml, hown, hts⟩ (c_X3_knows l E g li kb al L go tn lo ) (cwV 0 hts gX3_rank_X3_knows rfl rfl rfl (by decide +kernel) ⟨Nat.le_of_ble_eq_true rfl, Nat.le_of_ble_eq_true rfl⟩) ⟨wS.blind, (w_recv hK hP 0 (by decide) rfl (ci := 3) rfl), fun U hU hW => wS.go ⟨hln, _, hlf, hP⟩ hK hI hU hW⟩ rfl rfl hl.1 rfl (lv_room (Nat.le_of_ble_eq_true rfl)) dX3_rank_6 ⟨Nat.zero_le _, Nat.zero_le _⟩) hS (fun q _ h => h.elim) (fun q h => h.elim) (fun r_2 uu t H_2 locs_2 ht hvm hw hB hz1 hk1 hS => ?_)
  have hP := hP.same hk1
  have hE := hE.same hk1
  obtain rfl : r_2 = (swar kb) := hw
  refine lv_aload_n hx hb dX3_rank_9 rfl (lv_at hl 1 rfl) ?_
  refine w_getN (C := RX0) (T := TX0) (N := 2) (ci := 0) (v := .int (((lookS L).2))) hx hb hts hin0 hown hK hE 0 (by decide) rfl rfl 1 (by decide) nf_X3_88 (fun _ h9 => h9) rfl dX3_rank_10 ?_
  refine lv_iadd hx hb dX3_rank_13 ?_
  exact W.iret (v := ((swar kb) + ((lookS L).2))) hx hb hr (fun t ht hW => ⟨⟨_, (), rfl, rfl, (by show elP E g2 (lookS L) t.heap; rw [ht]; exact hE)⟩, hS.F ht⟩) hS.2.2 dX3_rank_14
set_option maxHeartbeats 4000000 in
set_option maxRecDepth 100000 in
theorem c_X3_findTogether (l : Launch) (E : wE) (g : Nat → Nat) (li : Bool) (kb : Int32) (al : Nat → Int32) (L : List Int32) (go tn lo : Int32) (g2 : Nat → Nat) (le : Nat → Int32) (ro : Int32) (hI : wI 3 g) (hJ : wI 2 g2) (hX : wX 3 g 2 g2)  : Met l yX3_findTogether wsX3_findTogether ({ frames := 4, cells := 0, slots := 0, locals := 86 }) (va_Pc [.ref ((g 0)), .ref ((g2 0))] (wS E 0 g (fun H => rcP E g li kb al L go tn lo H ∧ elP E g2 (le, ro) H))) (va_Qi (fun (r : Int32) (_ : Unit) => r = (findS (kb, al, L, go, tn, lo)).2.2.2.2) (fun _ t => rcP E g li (findS (kb, al, L, go, tn, lo)).1 (findS (kb, al, L, go, tn, lo)).2.1 (findS (kb, al, L, go, tn, lo)).2.2.1 go (findS (kb, al, L, go, tn, lo)).2.2.2.1 lo (t.heap) ∧ elP E g2 (lookS L) (t.heap)) (fun q => wF 3 g q ∨ wF 2 g2 q)) 0 0 (fun q => wF 3 g q ∨ wF 2 g2 q) := by
  refine Met.ofW (cc := cX3_findTogether) (maxL := 4) (ret := (some .int)) (by decide) rfl ?_
  intro p e s m args below meth c s₁ B hml hv
  obtain ⟨rfl, ⟨⟨hln, lf, hlf, hP⟩, hE0⟩, hK, hI0⟩ := hv
  have hx := B.exec
  have hb := B.bytes
  have hr := B.returns
  have hts := atoms_spec (ws := wsX3_findTogether) B.pre
  have hown : s.vm.findClass RX3 = some m.cls := findClass_of_methodNamed B.named
  have hlocks := B.notSynchronized
  have hS : va_S (fun q => wF 3 g q ∨ wF 2 g2 q) s.heap s.heap [] := va_S.rf
  have hin3 : ∀ w ∈ wsX30, w ∈ wsX3_findTogether := by decide +kernel
  have hl := lv_entry ([.ref ((g 0)), .ref ((g2 0))]) (n := 4) (Nat.le_of_ble_eq_true rfl)
  rw [lg_entry_eq]
  generalize (lg_sl ([.ref ((g 0)), .ref ((g2 0))]) ++ List.replicate (4 - (lg_sl ([.ref ((g 0)), .ref ((g2 0))])).length) Slot.unset).toArray = ls at hl ⊢
  have hl : lv_has ls 4 [(0, .ref ((g 0))), (1, .ref ((g2 0)))] := hl
  have hE : wP E 2 g2 (elF E g2 le ro) s.heap := hE0
  refine lv_aload_n hx hb dX3_findTogether_0 rfl (lv_at hl 0 rfl) ?_
  refine lv_aload_n hx hb dX3_findTogether_1 rfl (lv_at hl 1 rfl) ?_
  refine va_callv (va_runV (As := [.ref ((g2 0))]) (rest := []) ⟨hx, hb, hml, hown, hts⟩ (c_X3_lookTogether l E g li kb al L go tn lo g2 le ro hI hJ hX) (cwV 1 hts gX3_findTogether_X3_lookTogether rfl rfl rfl (by decide +kernel) ⟨Nat.le_of_ble_eq_true rfl, Nat.le_of_ble_eq_true rfl⟩) ⟨wS.blind, (w_recv hK hP 0 (by decide) rfl (ci := 3) rfl), fun U hU hW => wS.go ⟨⟨hln, _, hlf, hP⟩, hE⟩ hK wI0 hU hW⟩ rfl rfl hl.1 rfl (lv_room (Nat.le_of_ble_eq_true rfl)) dX3_findTogether_2 ⟨Nat.zero_le _, Nat.zero_le _⟩) hS (fun q _ h => Or.inr h) (fun q h => Or.inr h) (fun uu t H_1 locs_1 ht hvm hw hB hz1 hk1 hS => ?_)
  have hP := hP.other hk1 hX.out
  rw [ht] at hB
  have hE : wP E 2 g2 (elF E g2 ((lookS L).1) ((lookS L).2)) H_1 := hB
  refine lv_iconst (v := 0) hx hb dX3_findTogether_5 (by decide) ?_
  refine lv_istore_n (lv' := [(2, .int 0), (0, .ref ((g 0))), (1, .ref ((g2 0)))]) hx hb dX3_findTogether_6 rfl hl (by decide) rfl (fun ls hl => ?_)
  refine lv_iconst (v := 0) hx hb dX3_findTogether_7 (by decide) ?_
  refine lv_istore_n (lv' := [(3, .int 0), (2, .int 0), (0, .ref ((g 0))), (1, .ref ((g2 0)))]) hx hb dX3_findTogether_8 rfl hl (by decide) rfl (fun ls hl => ?_)
  have L9 : ∀ (k : Nat) (i : Nat) (q : PQ) (lf2 : Nat → Int32) (H : Heap) (locs : List Loc) (ls : Array Slot), i + k = 12 → itr (findB (lookS L).1) k i q = (findS (kb, al, L, go, tn, lo)) → q.2.2.1.length ≤ 24 → (∀ j, j < q.2.2.1.length → lf2 j = q.2.2.1.getD j 0) → wP E 3 g (rcF E g li q.1 q.2.1 lf2 q.2.2.1.length go q.2.2.2.1 lo) H → wP E 2 g2 (elF E g2 ((lookS L).1) ((lookS L).2)) H → va_S (fun q => wF 3 g q ∨ wF 2 g2 q) s.heap H locs → lv_has ls 4 [(3, .int (nI i)), (2, .int q.2.2.2.2), (0, .ref ((g 0))), (1, .ref ((g2 0)))] → W p l e (headSpec wsX3_findTogether ({ frames := 4, cells := 0, slots := 0, locals := 86 })).room s m ([.ref ((g 0)), .ref ((g2 0))] : List Value).toArray below meth c H locs 0 0 (MQ below (va_Qi (fun (r : Int32) (_ : Unit) => r = (findS (kb, al, L, go, tn, lo)).2.2.2.2) (fun _ t => rcP E g li (findS (kb, al, L, go, tn, lo)).1 (findS (kb, al, L, go, tn, lo)).2.1 (findS (kb, al, L, go, tn, lo)).2.2.1 go (findS (kb, al, L, go, tn, lo)).2.2.2.1 lo (t.heap) ∧ elP E g2 (lookS L) (t.heap)) (fun q => wF 3 g q ∨ wF 2 g2 q)) ([.ref ((g 0)), .ref ((g2 0))] : List Value).toArray s 0 0 (fun q => wF 3 g q ∨ wF 2 g2 q)) (F0 m 9 ls []) := by
    intro k
    induction k with
    | zero =>
      intro i q lf2 H locs ls hi hres hln2 hlf2 hP hE hS hl
      refine lv_iload_n hx hb dX3_findTogether_9 rfl (lv_at hl 0 rfl) ?_
      refine lv_bipush (v := 12) hx hb dX3_findTogether_10 (by decide) ?_
      refine lv_icmp_ge (tgt := 52) hx hb dX3_findTogether_12 (by decide) (fun c_2 => ?_) (fun c_2 => ?_)
      · have n_2 : 12 ≤ i := (nI_leI (a := 12) (b := i) (by omega) (by omega)).mp c_2
        refine lv_iload_n hx hb dX3_findTogether_52 rfl (lv_at hl 1 rfl) ?_
        have hres : q = (findS (kb, al, L, go, tn, lo)) := hres
        exact W.iret (v := q.2.2.2.2) hx hb hr (fun t ht hW => ⟨⟨_, (), rfl, (by show q.2.2.2.2 = _; rw [hres]), (by show rcP E g li (findS (kb, al, L, go, tn, lo)).1 (findS (kb, al, L, go, tn, lo)).2.1 (findS (kb, al, L, go, tn, lo)).2.2.1 go (findS (kb, al, L, go, tn, lo)).2.2.2.1 lo t.heap ∧ elP E g2 (lookS L) t.heap; rw [ht, ← hres]; exact ⟨⟨hln2, lf2, hlf2, hP⟩, hE⟩)⟩, hS.F ht⟩) hS.2.2 dX3_findTogether_53
      · have n_2 : ¬ 12 ≤ i := fun z => c_2 ((nI_leI (a := 12) (b := i) (by omega) (by omega)).mpr z)
        exfalso
        omega
    | succ k ih =>
      intro i q lf2 H locs ls hi hres hln2 hlf2 hP hE hS hl
      refine lv_iload_n hx hb dX3_findTogether_9 rfl (lv_at hl 0 rfl) ?_
      refine lv_bipush (v := 12) hx hb dX3_findTogether_10 (by decide) ?_
      refine lv_icmp_ge (tgt := 52) hx hb dX3_findTogether_12 (by decide) (fun c_3 => ?_) (fun c_3 => ?_)
      · have n_3 : 12 ≤ i := (nI_leI (a := 12) (b := i) (by omega) (by omega)).mp c_3
        exfalso
        omega
      · have n_3 : ¬ 12 ≤ i := fun z => c_3 ((nI_leI (a := 12) (b := i) (by omega) (by omega)).mpr z)
        refine lv_aload_n hx hb dX3_findTogether_15 rfl (lv_at hl 3 rfl) ?_
        refine lv_iload_n hx hb dX3_findTogether_16 rfl (lv_at hl 0 rfl) ?_
        refine va_calli (va_runV (As := [.int (nI i)]) (rest := []) ⟨hx, hb, hml, hown, hts⟩ (c_X0_tells l E g2 ((lookS L).1) ((lookS L).2) i (by omega)) (cwV 1 hts gX3_findTogether_X0_tells rfl rfl rfl (by decide +kernel) ⟨Nat.le_of_ble_eq_true rfl, Nat.le_of_ble_eq_true rfl⟩) ⟨wS.blind, (w_recv hK hE 0 (by decide) rfl (ci := 0) rfl), fun U hU hW => wS.go hE hK hJ hU hW⟩ rfl rfl hl.1 rfl (lv_room (Nat.le_of_ble_eq_true rfl)) dX3_findTogether_17 ⟨Nat.zero_le _, Nat.zero_le _⟩) hS (fun q _ h => h.elim) (fun q h => h.elim) (fun r_4 uu t H_4 locs_4 ht hvm hw hB hz1 hk1 hS => ?_)
        have hP := hP.same hk1
        have hE := hE.same hk1
        obtain rfl : r_4 = (tellsI ((lookS L).1 i) i) := hw
        refine lv_if_eq (tgt := 46) hx hb dX3_findTogether_20 (by decide) (fun c_5 => ?_) (fun c_5 => ?_)
        · refine lv_iinc (v := (nI (i + 1))) (lv' := [(3, .int (nI (i + 1))), (2, .int q.2.2.2.2), (0, .ref ((g 0))), (1, .ref ((g2 0)))]) hx hb dX3_findTogether_46 hl (k := 0) rfl (nI_1 _) (by decide) rfl (fun ls hl => ?_)
          refine lv_goto (tgt := 9) hx hb dX3_findTogether_49 (by decide) ?_
          have hres2 : itr (findB (lookS L).1) k (i + 1) q = (findS (kb, al, L, go, tn, lo)) := by rw [← hres, itr_s, findB_n c_5]
          exact ih (i + 1) q lf2 _ _ ls (by omega) hres2 hln2 hlf2 hP hE hS (lv_sub hl [0, 1, 2, 3] rfl)
        · refine lv_aload_n hx hb dX3_findTogether_23 rfl (lv_at hl 2 rfl) ?_
          refine w_get (C := RX3) (T := TX3) (N := 8) (ci := 3) (v := .int q.1) hx hb hts hin3 hown hK hP 0 (by decide) rfl rfl 1 (by decide) (hts (.fieldLink RX3 22 "MixedBlocks$Receiver" "knownBlocks" "I") (List.mem_of_getElem? (i := 1) rfl)) (fun _ h9 => h9) rfl dX3_findTogether_24 ?_
          refine lv_iload_n hx hb dX3_findTogether_27 rfl (lv_at hl 0 rfl) ?_
          refine va_calli (va_runSN (As := [.int q.1, .int (nI i)]) (rest := []) ⟨hx, hb, hml, hown, hts⟩ (c_X5_holds l q.1 (nI i)) ⟨va_cnB 2 hts gX3_findTogether_X5_holds_n48 rfl rfl rfl (hK.2 _ nm_X3_48) (hts (.initialized RX5) (List.mem_of_getElem? (i := 21) rfl)) (by decide +kernel) ⟨Nat.le_of_ble_eq_true rfl, Nat.le_of_ble_eq_true rfl⟩, (hts (.static yX5_holds) (List.mem_of_getElem? (i := 20) rfl)), trivial⟩ ⟨wU_blind, fun U hU hW => ⟨rfl, trivial⟩⟩ rfl rfl hl.1 rfl (lv_room (Nat.le_of_ble_eq_true rfl)) dX3_findTogether_28 ⟨Nat.zero_le _, Nat.zero_le _⟩) hS (fun q _ h => h.elim) (fun q h => h.elim) (fun r_6 uu t H_6 locs_6 ht hvm hw hB hz1 hk1 hS => ?_)
          have hP := hP.same hk1
          have hE := hE.same hk1
          obtain rfl : r_6 = (hldI q.1 (nI i)) := hw
          refine lv_if_ne (tgt := 46) hx hb dX3_findTogether_31 (by decide) (fun c_7 => ?_) (fun c_7 => ?_)
          · refine lv_iinc (v := (nI (i + 1))) (lv' := [(3, .int (nI (i + 1))), (2, .int q.2.2.2.2), (0, .ref ((g 0))), (1, .ref ((g2 0)))]) hx hb dX3_findTogether_46 hl (k := 0) rfl (nI_1 _) (by decide) rfl (fun ls hl => ?_)
            refine lv_goto (tgt := 9) hx hb dX3_findTogether_49 (by decide) ?_
            have hres2 : itr (findB (lookS L).1) k (i + 1) q = (findS (kb, al, L, go, tn, lo)) := by rw [← hres, itr_s, findB_k c_7]
            exact ih (i + 1) q lf2 _ _ ls (by omega) hres2 hln2 hlf2 hP hE hS (lv_sub hl [0, 1, 2, 3] rfl)
          · refine lv_iload_n hx hb dX3_findTogether_34 rfl (lv_at hl 1 rfl) ?_
            refine lv_aload_n hx hb dX3_findTogether_35 rfl (lv_at hl 2 rfl) ?_
            refine lv_aload_n hx hb dX3_findTogether_36 rfl (lv_at hl 3 rfl) ?_
            refine lv_iload_n hx hb dX3_findTogether_37 rfl (lv_at hl 0 rfl) ?_
            refine va_calli (va_runV (As := [.int (nI i)]) (rest := [.ref ((g 0)), .int q.2.2.2.2]) ⟨hx, hb, hml, hown, hts⟩ (c_X0_rowOf l E g2 ((lookS L).1) ((lookS L).2) i (by omega)) (cwV 1 hts gX3_findTogether_X0_rowOf rfl rfl rfl (by decide +kernel) ⟨Nat.le_of_ble_eq_true rfl, Nat.le_of_ble_eq_true rfl⟩) ⟨wS.blind, (w_recv hK hE 0 (by decide) rfl (ci := 0) rfl), fun U hU hW => wS.go hE hK hJ hU hW⟩ rfl rfl hl.1 rfl (lv_room (Nat.le_of_ble_eq_true rfl)) dX3_findTogether_38 ⟨Nat.zero_le _, Nat.zero_le _⟩) hS (fun q _ h => h.elim) (fun q h => h.elim) (fun r_8 uu t H_8 locs_8 ht hvm hw hB hz1 hk1 hS => ?_)
            have hP := hP.same hk1
            have hE := hE.same hk1
            obtain rfl : r_8 = ((lookS L).1 i) := hw
            refine va_calli (va_runV (As := [.int (((lookS L).1 i))]) (rest := [.int q.2.2.2.2]) ⟨hx, hb, hml, hown, hts⟩ (c_X3_peelFrom l E g li q.1 q.2.1 q.2.2.1 go q.2.2.2.1 lo ((lookS L).1 i)) (cwV 1 hts gX3_findTogether_X3_peelFrom rfl rfl rfl (by decide +kernel) ⟨Nat.le_of_ble_eq_true rfl, Nat.le_of_ble_eq_true rfl⟩) ⟨wS.blind, (w_recv hK hP 0 (by decide) rfl (ci := 3) rfl), fun U hU hW => wS.go ⟨hln2, _, hlf2, hP⟩ hK hI hU hW⟩ rfl rfl hl.1 rfl (lv_room (Nat.le_of_ble_eq_true rfl)) dX3_findTogether_41 ⟨Nat.zero_le _, Nat.zero_le _⟩) hS (fun q _ h => Or.inl h) (fun q h => Or.inl h) (fun r_9 uu t H_9 locs_9 ht hvm hw hB hz1 hk1 hS => ?_)
            have hE := hE.other hk1 hX.symm.out
            rw [ht] at hB
            obtain ⟨hln_9, lf_9, hlf_9, hP⟩ := hB
            obtain rfl : r_9 = (peelS q.2.2.1.length ((lookS L).1 i) (q.1, q.2.1, q.2.2.1, q.2.2.2.1, 0)).2.2.2.2 := hw
            refine lv_iadd hx hb dX3_findTogether_44 ?_
            refine lv_istore_n (lv' := [(2, .int ((q.2.2.2.2 + ((peelS q.2.2.1.length ((lookS L).1 i) (q.1, q.2.1, q.2.2.1, q.2.2.2.1, 0)).2.2.2.2)))), (3, .int (nI i)), (0, .ref ((g 0))), (1, .ref ((g2 0)))]) hx hb dX3_findTogether_45 rfl hl (by decide) rfl (fun ls hl => ?_)
            refine lv_iinc (v := (nI (i + 1))) (lv' := [(3, .int (nI (i + 1))), (2, .int ((q.2.2.2.2 + ((peelS q.2.2.1.length ((lookS L).1 i) (q.1, q.2.1, q.2.2.1, q.2.2.2.1, 0)).2.2.2.2)))), (0, .ref ((g 0))), (1, .ref ((g2 0)))]) hx hb dX3_findTogether_46 hl (k := 1) rfl (nI_1 _) (by decide) rfl (fun ls hl => ?_)
            refine lv_goto (tgt := 9) hx hb dX3_findTogether_49 (by decide) ?_
            have hres2 : itr (findB (lookS L).1) k (i + 1) ((peelS q.2.2.1.length ((lookS L).1 i) (q.1, q.2.1, q.2.2.1, q.2.2.2.1, 0)).1, (peelS q.2.2.1.length ((lookS L).1 i) (q.1, q.2.1, q.2.2.1, q.2.2.2.1, 0)).2.1, (peelS q.2.2.1.length ((lookS L).1 i) (q.1, q.2.1, q.2.2.1, q.2.2.2.1, 0)).2.2.1, (peelS q.2.2.1.length ((lookS L).1 i) (q.1, q.2.1, q.2.2.1, q.2.2.2.1, 0)).2.2.2.1, (q.2.2.2.2 + ((peelS q.2.2.1.length ((lookS L).1 i) (q.1, q.2.1, q.2.2.1, q.2.2.2.1, 0)).2.2.2.2))) = (findS (kb, al, L, go, tn, lo)) := by rw [← hres, itr_s, findB_y c_5 c_7]
            exact ih (i + 1) ((peelS q.2.2.1.length ((lookS L).1 i) (q.1, q.2.1, q.2.2.1, q.2.2.2.1, 0)).1, (peelS q.2.2.1.length ((lookS L).1 i) (q.1, q.2.1, q.2.2.1, q.2.2.2.1, 0)).2.1, (peelS q.2.2.1.length ((lookS L).1 i) (q.1, q.2.1, q.2.2.1, q.2.2.2.1, 0)).2.2.1, (peelS q.2.2.1.length ((lookS L).1 i) (q.1, q.2.1, q.2.2.1, q.2.2.2.1, 0)).2.2.2.1, (q.2.2.2.2 + ((peelS q.2.2.1.length ((lookS L).1 i) (q.1, q.2.1, q.2.2.1, q.2.2.2.1, 0)).2.2.2.2))) lf_9 _ _ ls (by omega) hres2 hln_9 hlf_9 hP hE hS (lv_sub hl [0, 1, 2, 3] rfl)
  exact L9 12 0 (kb, al, L, tn, 0) lf _ _ ls rfl rfl hln hlf hP hE hS (lv_sub hl [0, 1, 2, 3] rfl)

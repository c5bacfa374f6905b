set_option maxHeartbeats 4000000 in
set_option maxRecDepth 100000 in
theorem c_X6_in (l : Launch) (v lo hi : Int32) : Met l yX6_in wsX6_in ({ frames := 0, cells := 0, slots := 0, locals := 0 }) (va_Pc [.int v, .int lo, .int hi] (fun _ => True)) (va_Qi (fun (r : Int32) (_ : Unit) => r = bI (inB v lo hi)) (fun _ t => True) wN) 0 0 wN := by
  refine Met.ofW (cc := cX6_in) (maxL := 3) (ret := (some .boolean)) (by decide) rfl ?_
  intro p e s m args below meth c s₁ B hml hv
  obtain ⟨rfl, -⟩ := hv
  have hx := B.exec
  have hb := B.bytes
  have hr := B.returns
  have hts := atoms_spec (ws := wsX6_in) B.pre
  have hown : s.vm.findClass RX6 = some m.cls := findClass_of_methodNamed B.named
  have hlocks := B.notSynchronized
  have hS : va_S wN s.heap s.heap [] := va_S.rf
  have hl := lv_entry ([.int v, .int lo, .int hi]) (n := 3) (Nat.le_of_ble_eq_true rfl)
  rw [lg_entry_eq]
  generalize (lg_sl ([.int v, .int lo, .int hi]) ++ List.replicate (3 - (lg_sl ([.int v, .int lo, .int hi])).length) Slot.unset).toArray = ls at hl ⊢
  have hl : lv_has ls 3 [(0, .int v), (1, .int lo), (2, .int hi)] := hl
  refine lv_iload_n hx hb dX6_in_0 rfl (lv_at hl 0 rfl) ?_
  refine lv_iload_n hx hb dX6_in_1 rfl (lv_at hl 1 rfl) ?_
  refine lv_icmp_lt (tgt := 14) hx hb dX6_in_2 (by decide) (fun c_1 => ?_) (fun c_1 => ?_)
  · refine lv_iconst (v := 0) hx hb dX6_in_14 (by decide) ?_
    exact W.zret (v := 0) hx hb hr rfl (fun t ht hW => ⟨⟨_, (), rfl, (inB_l c_1), trivial⟩, hS.F ht⟩) hS.2.2 dX6_in_15
  · refine lv_iload_n hx hb dX6_in_5 rfl (lv_at hl 0 rfl) ?_
    refine lv_iload_n hx hb dX6_in_6 rfl (lv_at hl 2 rfl) ?_
    refine lv_icmp_gt (tgt := 14) hx hb dX6_in_7 (by decide) (fun c_2 => ?_) (fun c_2 => ?_)
    · refine lv_iconst (v := 0) hx hb dX6_in_14 (by decide) ?_
      exact W.zret (v := 0) hx hb hr rfl (fun t ht hW => ⟨⟨_, (), rfl, (inB_h c_2), trivial⟩, hS.F ht⟩) hS.2.2 dX6_in_15
    · refine lv_iconst (v := 1) hx hb dX6_in_10 (by decide) ?_
      refine lv_goto (tgt := 15) hx hb dX6_in_11 (by decide) ?_
      exact W.zret (v := 1) hx hb hr rfl (fun t ht hW => ⟨⟨_, (), rfl, (inB_y c_1 c_2), trivial⟩, hS.F ht⟩) hS.2.2 dX6_in_15
set_option maxHeartbeats 4000000 in
set_option maxRecDepth 100000 in
theorem c_X6_of (l : Launch) (u j : Nat) : Met l yX6_of wsX6_of ({ frames := 0, cells := 0, slots := 0, locals := 0 }) (va_Pc [.int (nI u), .int (nI j)] (fun _ => True)) (va_Qi (fun (r : Int32) (_ : Unit) => r = nI (14 + 30 * u + j)) (fun _ t => True) wN) 0 0 wN := by
  refine Met.ofW (cc := cX6_of) (maxL := 2) (ret := (some .int)) (by decide) rfl ?_
  intro p e s m args below meth c s₁ B hml hv
  obtain ⟨rfl, -⟩ := hv
  have hx := B.exec
  have hb := B.bytes
  have hr := B.returns
  have hts := atoms_spec (ws := wsX6_of) B.pre
  have hown : s.vm.findClass RX6 = some m.cls := findClass_of_methodNamed B.named
  have hlocks := B.notSynchronized
  have hS : va_S wN s.heap s.heap [] := va_S.rf
  have hl := lv_entry ([.int (nI u), .int (nI j)]) (n := 2) (Nat.le_of_ble_eq_true rfl)
  rw [lg_entry_eq]
  generalize (lg_sl ([.int (nI u), .int (nI j)]) ++ List.replicate (2 - (lg_sl ([.int (nI u), .int (nI j)])).length) Slot.unset).toArray = ls at hl ⊢
  have hl : lv_has ls 2 [(0, .int (nI u)), (1, .int (nI j))] := hl
  refine lv_bipush (v := 14) hx hb dX6_of_0 (by decide) ?_
  refine lv_bipush (v := 30) hx hb dX6_of_2 (by decide) ?_
  refine lv_iload_n hx hb dX6_of_4 rfl (lv_at hl 0 rfl) ?_
  refine lv_imul hx hb dX6_of_5 ?_
  rw [show 30 * (nI u) = nI (30 * u) from pk_mul 30 u]
  refine lv_iadd hx hb dX6_of_6 ?_
  rw [show 14 + (nI (30 * u)) = nI (14 + (30 * u)) from nI_add 14 (30 * u)]
  refine lv_iload_n hx hb dX6_of_7 rfl (lv_at hl 1 rfl) ?_
  refine lv_iadd hx hb dX6_of_8 ?_
  rw [show (nI (14 + (30 * u))) + (nI j) = nI ((14 + (30 * u)) + j) from nI_add (14 + (30 * u)) j]
  exact W.iret (v := (nI ((14 + (30 * u)) + j))) hx hb hr (fun t ht hW => ⟨⟨_, (), rfl, rfl, trivial⟩, hS.F ht⟩) hS.2.2 dX6_of_9
set_option maxHeartbeats 4000000 in
set_option maxRecDepth 100000 in
theorem c_X6_isReceiver (l : Launch) (x : Int32) : Met l yX6_isReceiver wsX6_isReceiver ({ frames := 1, cells := 0, slots := 0, locals := 22 }) (va_Pc [.int x] (fun _ => True)) (va_Qi (fun (r : Int32) (_ : Unit) => r = bI (inB x 0 2)) (fun _ t => True) wN) 0 0 wN := by
  refine Met.ofW (cc := cX6_isReceiver) (maxL := 1) (ret := (some .boolean)) (by decide) rfl ?_
  intro p e s m args below meth c s₁ B hml hv
  obtain ⟨rfl, -⟩ := hv
  have hx := B.exec
  have hb := B.bytes
  have hr := B.returns
  have hts := atoms_spec (ws := wsX6_isReceiver) B.pre
  have hown : s.vm.findClass RX6 = some m.cls := findClass_of_methodNamed B.named
  have hlocks := B.notSynchronized
  have hS : va_S wN s.heap s.heap [] := va_S.rf
  have hl := lv_entry ([.int x]) (n := 1) (Nat.le_of_ble_eq_true rfl)
  rw [lg_entry_eq]
  generalize (lg_sl ([.int x]) ++ List.replicate (1 - (lg_sl ([.int x])).length) Slot.unset).toArray = ls at hl ⊢
  have hl : lv_has ls 1 [(0, .int x)] := hl
  refine lv_iload_n hx hb dX6_isReceiver_0 rfl (lv_at hl 0 rfl) ?_
  refine lv_iconst (v := 0) hx hb dX6_isReceiver_1 (by decide) ?_
  refine lv_iconst (v := 2) hx hb dX6_isReceiver_2 (by decide) ?_
  refine va_calli (va_runS (As := [.int x, .int 0, .int 2]) (rest := []) ⟨hx, hb, hml, hown, hts⟩ (c_X6_in l x 0 2) (va_cwS 3 hts gX6_isReceiver_X6_in rfl rfl rfl (by decide +kernel) ⟨Nat.le_of_ble_eq_true rfl, Nat.le_of_ble_eq_true rfl⟩) ⟨wU_blind, fun U hU hW => ⟨rfl, trivial⟩⟩ rfl rfl hl.1 rfl (lv_room (Nat.le_of_ble_eq_true rfl)) dX6_isReceiver_3 ⟨Nat.zero_le _, Nat.zero_le _⟩) hS (fun q _ h => h.elim) (fun q h => h.elim) (fun r_1 uu t H_1 locs_1 ht hvm hw hB hz1 hk1 hS => ?_)
  obtain rfl : r_1 = (bI (inB x 0 2)) := hw
  exact W.zret (v := (bI (inB x 0 2))) hx hb hr (bI_n _) (fun t ht hW => ⟨⟨_, (), rfl, rfl, trivial⟩, hS.F ht⟩) hS.2.2 dX6_isReceiver_6
set_option maxHeartbeats 4000000 in
set_option maxRecDepth 100000 in
theorem c_X6_isMix (l : Launch) (x : Int32) : Met l yX6_isMix wsX6_isMix ({ frames := 1, cells := 0, slots := 0, locals := 22 }) (va_Pc [.int x] (fun _ => True)) (va_Qi (fun (r : Int32) (_ : Unit) => r = bI (inB x 0 9999)) (fun _ t => True) wN) 0 0 wN := by
  refine Met.ofW (cc := cX6_isMix) (maxL := 1) (ret := (some .boolean)) (by decide) rfl ?_
  intro p e s m args below meth c s₁ B hml hv
  obtain ⟨rfl, -⟩ := hv
  have hx := B.exec
  have hb := B.bytes
  have hr := B.returns
  have hts := atoms_spec (ws := wsX6_isMix) B.pre
  have hown : s.vm.findClass RX6 = some m.cls := findClass_of_methodNamed B.named
  have hlocks := B.notSynchronized
  have hS : va_S wN s.heap s.heap [] := va_S.rf
  have hl := lv_entry ([.int x]) (n := 1) (Nat.le_of_ble_eq_true rfl)
  rw [lg_entry_eq]
  generalize (lg_sl ([.int x]) ++ List.replicate (1 - (lg_sl ([.int x])).length) Slot.unset).toArray = ls at hl ⊢
  have hl : lv_has ls 1 [(0, .int x)] := hl
  refine lv_iload_n hx hb dX6_isMix_0 rfl (lv_at hl 0 rfl) ?_
  refine lv_iconst (v := 0) hx hb dX6_isMix_1 (by decide) ?_
  refine lv_sipush (v := 9999) hx hb dX6_isMix_2 (by decide) ?_
  refine va_calli (va_runS (As := [.int x, .int 0, .int 9999]) (rest := []) ⟨hx, hb, hml, hown, hts⟩ (c_X6_in l x 0 9999) (va_cwS 3 hts gX6_isMix_X6_in rfl rfl rfl (by decide +kernel) ⟨Nat.le_of_ble_eq_true rfl, Nat.le_of_ble_eq_true rfl⟩) ⟨wU_blind, fun U hU hW => ⟨rfl, trivial⟩⟩ rfl rfl hl.1 rfl (lv_room (Nat.le_of_ble_eq_true rfl)) dX6_isMix_5 ⟨Nat.zero_le _, Nat.zero_le _⟩) hS (fun q _ h => h.elim) (fun q h => h.elim) (fun r_1 uu t H_1 locs_1 ht hvm hw hB hz1 hk1 hS => ?_)
  obtain rfl : r_1 = (bI (inB x 0 9999)) := hw
  exact W.zret (v := (bI (inB x 0 9999))) hx hb hr (bI_n _) (fun t ht hW => ⟨⟨_, (), rfl, rfl, trivial⟩, hS.F ht⟩) hS.2.2 dX6_isMix_8
set_option maxHeartbeats 4000000 in
set_option maxRecDepth 100000 in
theorem c_X6_bits (l : Launch) (mk : Nat) (hm : mk < 4096) : Met l yX6_bits wsX6_bits ({ frames := 0, cells := 0, slots := 0, locals := 0 }) (va_Pc [.int (nI mk)] (fun _ => True)) (va_Qi (fun (r : Int32) (_ : Unit) => r = nI (pc mk)) (fun _ t => True) wN) 0 0 wN := by
  refine Met.ofW (cc := cX6_bits) (maxL := 3) (ret := (some .int)) (by decide) rfl ?_
  intro p e s m args below meth c s₁ B hml hv
  obtain ⟨rfl, -⟩ := hv
  have hx := B.exec
  have hb := B.bytes
  have hr := B.returns
  have hts := atoms_spec (ws := wsX6_bits) B.pre
  have hown : s.vm.findClass RX6 = some m.cls := findClass_of_methodNamed B.named
  have hlocks := B.notSynchronized
  have hS : va_S wN s.heap s.heap [] := va_S.rf
  have hl := lv_entry ([.int (nI mk)]) (n := 3) (Nat.le_of_ble_eq_true rfl)
  rw [lg_entry_eq]
  generalize (lg_sl ([.int (nI mk)]) ++ List.replicate (3 - (lg_sl ([.int (nI mk)])).length) Slot.unset).toArray = ls at hl ⊢
  have hl : lv_has ls 3 [(0, .int (nI mk))] := hl
  refine lv_iconst (v := 0) hx hb dX6_bits_0 (by decide) ?_
  refine lv_istore_n (lv' := [(1, .int 0), (0, .int (nI mk))]) hx hb dX6_bits_1 rfl hl (by decide) rfl (fun ls hl => ?_)
  refine lv_iconst (v := 0) hx hb dX6_bits_2 (by decide) ?_
  refine lv_istore_n (lv' := [(2, .int 0), (1, .int 0), (0, .int (nI mk))]) hx hb dX6_bits_3 rfl hl (by decide) rfl (fun ls hl => ?_)
  have L4 : ∀ (k : Nat) (i : Nat) (H : Heap) (locs : List Loc) (ls : Array Slot), i + k = 12 → va_S wN s.heap H locs → lv_has ls 3 [(2, .int (nI i)), (1, .int (nI (pcN mk i))), (0, .int (nI mk))] → W p l e (headSpec wsX6_bits ({ frames := 0, cells := 0, slots := 0, locals := 0 })).room s m ([.int (nI mk)] : List Value).toArray below meth c H locs 0 0 (MQ below (va_Qi (fun (r : Int32) (_ : Unit) => r = nI (pc mk)) (fun _ t => True) wN) ([.int (nI mk)] : List Value).toArray s 0 0 wN) (F0 m 4 ls []) := by
    intro k
    induction k with
    | zero =>
      intro i H locs ls hi hS hl
      refine lv_iload_n hx hb dX6_bits_4 rfl (lv_at hl 0 rfl) ?_
      refine lv_bipush (v := 12) hx hb dX6_bits_5 (by decide) ?_
      refine lv_icmp_ge (tgt := 24) hx hb dX6_bits_7 (by decide) (fun c_1 => ?_) (fun c_1 => ?_)
      · have n_1 : 12 ≤ i := (nI_leI (a := 12) (b := i) (by omega) (by omega)).mp c_1
        refine lv_iload_n hx hb dX6_bits_24 rfl (lv_at hl 1 rfl) ?_
        exact W.iret (v := (nI (pcN mk i))) hx hb hr (fun t ht hW => ⟨⟨_, (), rfl, (by show _ = _; rw [show i = 12 by omega]; rfl), trivial⟩, hS.F ht⟩) hS.2.2 dX6_bits_25
      · have n_1 : ¬ (12 ≤ i) := fun z => c_1 ((nI_leI (a := 12) (b := i) (by omega) (by omega)).mpr z)
        exfalso
        omega
    | succ k ihk =>
      intro i H locs ls hi hS hl
      refine lv_iload_n hx hb dX6_bits_4 rfl (lv_at hl 0 rfl) ?_
      refine lv_bipush (v := 12) hx hb dX6_bits_5 (by decide) ?_
      refine lv_icmp_ge (tgt := 24) hx hb dX6_bits_7 (by decide) (fun c_2 => ?_) (fun c_2 => ?_)
      · have n_2 : 12 ≤ i := (nI_leI (a := 12) (b := i) (by omega) (by omega)).mp c_2
        exfalso
        omega
      · have n_2 : ¬ (12 ≤ i) := fun z => c_2 ((nI_leI (a := 12) (b := i) (by omega) (by omega)).mpr z)
        refine lv_iload_n hx hb dX6_bits_10 rfl (lv_at hl 1 rfl) ?_
        refine lv_iload_n hx hb dX6_bits_11 rfl (lv_at hl 2 rfl) ?_
        refine lv_iload_n hx hb dX6_bits_12 rfl (lv_at hl 0 rfl) ?_
        refine lv_ishr hx hb dX6_bits_13 ?_
        refine lv_iconst (v := 1) hx hb dX6_bits_14 (by decide) ?_
        refine lv_iand hx hb dX6_bits_15 ?_
        rw [show ((nI mk) >>> ((nI i) &&& 31)) &&& 1 = nI (bN mk i) from bN_I (m := mk) (b := i) (by omega) (by omega)]
        refine lv_iadd hx hb dX6_bits_16 ?_
        rw [show (nI (pcN mk i)) + (nI (bN mk i)) = nI ((pcN mk i) + (bN mk i)) from nI_add (pcN mk i) (bN mk i)]
        refine lv_istore_n (lv' := [(1, .int (nI ((pcN mk i) + (bN mk i)))), (2, .int (nI i)), (0, .int (nI mk))]) hx hb dX6_bits_17 rfl hl (by decide) rfl (fun ls hl => ?_)
        refine lv_iinc (v := (nI (i + 1))) (lv' := [(2, .int (nI (i + 1))), (1, .int (nI ((pcN mk i) + (bN mk i)))), (0, .int (nI mk))]) hx hb dX6_bits_18 hl (k := 1) rfl (nI_1 _) (by decide) rfl (fun ls hl => ?_)
        refine lv_goto (tgt := 4) hx hb dX6_bits_21 (by decide) ?_
        exact ihk (i + 1) _ _ ls (by omega) hS (lv_sub hl [0, 1, 2] rfl)
  exact L4 12 0 _ _ ls rfl hS (lv_sub hl [0, 1, 2] rfl)
set_option maxHeartbeats 4000000 in
set_option maxRecDepth 100000 in
theorem c_X6_degree (l : Launch) (j : Nat) (hj : j < 16) : Met l yX6_degree wsX6_degree ({ frames := 0, cells := 0, slots := 0, locals := 0 }) (va_Pc [.int (nI j)] (fun _ => True)) (va_Qi (fun (r : Int32) (_ : Unit) => r = nI (degN j)) (fun _ t => True) wN) 0 0 wN := by
  refine Met.ofW (cc := cX6_degree) (maxL := 1) (ret := (some .int)) (by decide) rfl ?_
  intro p e s m args below meth c s₁ B hml hv
  obtain ⟨rfl, -⟩ := hv
  have hx := B.exec
  have hb := B.bytes
  have hr := B.returns
  have hts := atoms_spec (ws := wsX6_degree) B.pre
  have hown : s.vm.findClass RX6 = some m.cls := findClass_of_methodNamed B.named
  have hlocks := B.notSynchronized
  have hS : va_S wN s.heap s.heap [] := va_S.rf
  have hl := lv_entry ([.int (nI j)]) (n := 1) (Nat.le_of_ble_eq_true rfl)
  rw [lg_entry_eq]
  generalize (lg_sl ([.int (nI j)]) ++ List.replicate (1 - (lg_sl ([.int (nI j)])).length) Slot.unset).toArray = ls at hl ⊢
  have hl : lv_has ls 1 [(0, .int (nI j))] := hl
  refine lv_iload_n hx hb dX6_degree_0 rfl (lv_at hl 0 rfl) ?_
  obtain rfl | rfl | rfl | rfl | rfl | rfl | rfl | rfl | rfl | rfl | rfl | rfl | rfl | rfl | rfl | rfl : j = 0 ∨ j = 1 ∨ j = 2 ∨ j = 3 ∨ j = 4 ∨ j = 5 ∨ j = 6 ∨ j = 7 ∨ j = 8 ∨ j = 9 ∨ j = 10 ∨ j = 11 ∨ j = 12 ∨ j = 13 ∨ j = 14 ∨ j = 15 := by omega
  · refine lv_tableIn (off := 79) (tgt := 80) hx hb dX6_degree_1 (by decide) (by decide) (by decide +kernel) (by decide) ?_
    refine lv_iconst (v := 1) hx hb dX6_degree_80 (by decide) ?_
    exact W.iret (v := 1) hx hb hr (fun t ht hW => ⟨⟨_, (), rfl, rfl, trivial⟩, hS.F ht⟩) hS.2.2 dX6_degree_81
  · refine lv_tableIn (off := 79) (tgt := 80) hx hb dX6_degree_1 (by decide) (by decide) (by decide +kernel) (by decide) ?_
    refine lv_iconst (v := 1) hx hb dX6_degree_80 (by decide) ?_
    exact W.iret (v := 1) hx hb hr (fun t ht hW => ⟨⟨_, (), rfl, rfl, trivial⟩, hS.F ht⟩) hS.2.2 dX6_degree_81
  · refine lv_tableIn (off := 96) (tgt := 97) hx hb dX6_degree_1 (by decide) (by decide) (by decide +kernel) (by decide) ?_
    refine lv_iconst (v := 2) hx hb dX6_degree_97 (by decide) ?_
    exact W.iret (v := 2) hx hb hr (fun t ht hW => ⟨⟨_, (), rfl, rfl, trivial⟩, hS.F ht⟩) hS.2.2 dX6_degree_98
  · refine lv_tableIn (off := 96) (tgt := 97) hx hb dX6_degree_1 (by decide) (by decide) (by decide +kernel) (by decide) ?_
    refine lv_iconst (v := 2) hx hb dX6_degree_97 (by decide) ?_
    exact W.iret (v := 2) hx hb hr (fun t ht hW => ⟨⟨_, (), rfl, rfl, trivial⟩, hS.F ht⟩) hS.2.2 dX6_degree_98
  · refine lv_tableIn (off := 96) (tgt := 97) hx hb dX6_degree_1 (by decide) (by decide) (by decide +kernel) (by decide) ?_
    refine lv_iconst (v := 2) hx hb dX6_degree_97 (by decide) ?_
    exact W.iret (v := 2) hx hb hr (fun t ht hW => ⟨⟨_, (), rfl, rfl, trivial⟩, hS.F ht⟩) hS.2.2 dX6_degree_98
  · refine lv_tableIn (off := 96) (tgt := 97) hx hb dX6_degree_1 (by decide) (by decide) (by decide +kernel) (by decide) ?_
    refine lv_iconst (v := 2) hx hb dX6_degree_97 (by decide) ?_
    exact W.iret (v := 2) hx hb hr (fun t ht hW => ⟨⟨_, (), rfl, rfl, trivial⟩, hS.F ht⟩) hS.2.2 dX6_degree_98
  · refine lv_tableIn (off := 96) (tgt := 97) hx hb dX6_degree_1 (by decide) (by decide) (by decide +kernel) (by decide) ?_
    refine lv_iconst (v := 2) hx hb dX6_degree_97 (by decide) ?_
    exact W.iret (v := 2) hx hb hr (fun t ht hW => ⟨⟨_, (), rfl, rfl, trivial⟩, hS.F ht⟩) hS.2.2 dX6_degree_98
  · refine lv_tableIn (off := 81) (tgt := 82) hx hb dX6_degree_1 (by decide) (by decide) (by decide +kernel) (by decide) ?_
    refine lv_iconst (v := 3) hx hb dX6_degree_82 (by decide) ?_
    exact W.iret (v := 3) hx hb hr (fun t ht hW => ⟨⟨_, (), rfl, rfl, trivial⟩, hS.F ht⟩) hS.2.2 dX6_degree_83
  · refine lv_tableIn (off := 81) (tgt := 82) hx hb dX6_degree_1 (by decide) (by decide) (by decide +kernel) (by decide) ?_
    refine lv_iconst (v := 3) hx hb dX6_degree_82 (by decide) ?_
    exact W.iret (v := 3) hx hb hr (fun t ht hW => ⟨⟨_, (), rfl, rfl, trivial⟩, hS.F ht⟩) hS.2.2 dX6_degree_83
  · refine lv_tableIn (off := 81) (tgt := 82) hx hb dX6_degree_1 (by decide) (by decide) (by decide +kernel) (by decide) ?_
    refine lv_iconst (v := 3) hx hb dX6_degree_82 (by decide) ?_
    exact W.iret (v := 3) hx hb hr (fun t ht hW => ⟨⟨_, (), rfl, rfl, trivial⟩, hS.F ht⟩) hS.2.2 dX6_degree_83
  · refine lv_tableIn (off := 83) (tgt := 84) hx hb dX6_degree_1 (by decide) (by decide) (by decide +kernel) (by decide) ?_
    refine lv_iconst (v := 4) hx hb dX6_degree_84 (by decide) ?_
    exact W.iret (v := 4) hx hb hr (fun t ht hW => ⟨⟨_, (), rfl, rfl, trivial⟩, hS.F ht⟩) hS.2.2 dX6_degree_85
  · refine lv_tableIn (off := 83) (tgt := 84) hx hb dX6_degree_1 (by decide) (by decide) (by decide +kernel) (by decide) ?_
    refine lv_iconst (v := 4) hx hb dX6_degree_84 (by decide) ?_
    exact W.iret (v := 4) hx hb hr (fun t ht hW => ⟨⟨_, (), rfl, rfl, trivial⟩, hS.F ht⟩) hS.2.2 dX6_degree_85
  · refine lv_tableIn (off := 85) (tgt := 86) hx hb dX6_degree_1 (by decide) (by decide) (by decide +kernel) (by decide) ?_
    refine lv_iconst (v := 5) hx hb dX6_degree_86 (by decide) ?_
    exact W.iret (v := 5) hx hb hr (fun t ht hW => ⟨⟨_, (), rfl, rfl, trivial⟩, hS.F ht⟩) hS.2.2 dX6_degree_87
  · refine lv_tableIn (off := 87) (tgt := 88) hx hb dX6_degree_1 (by decide) (by decide) (by decide +kernel) (by decide) ?_
    refine lv_bipush (v := 6) hx hb dX6_degree_88 (by decide) ?_
    exact W.iret (v := 6) hx hb hr (fun t ht hW => ⟨⟨_, (), rfl, rfl, trivial⟩, hS.F ht⟩) hS.2.2 dX6_degree_90
  · refine lv_tableIn (off := 90) (tgt := 91) hx hb dX6_degree_1 (by decide) (by decide) (by decide +kernel) (by decide) ?_
    refine lv_bipush (v := 8) hx hb dX6_degree_91 (by decide) ?_
    exact W.iret (v := 8) hx hb hr (fun t ht hW => ⟨⟨_, (), rfl, rfl, trivial⟩, hS.F ht⟩) hS.2.2 dX6_degree_93
  · refine lv_tableIn (off := 93) (tgt := 94) hx hb dX6_degree_1 (by decide) (by decide) (by decide +kernel) (by decide) ?_
    refine lv_bipush (v := 12) hx hb dX6_degree_94 (by decide) ?_
    exact W.iret (v := 12) hx hb hr (fun t ht hW => ⟨⟨_, (), rfl, rfl, trivial⟩, hS.F ht⟩) hS.2.2 dX6_degree_96
set_option maxHeartbeats 4000000 in
set_option maxRecDepth 100000 in
theorem c_X6_lowest (l : Launch) (y : Nat) (hy : y < 4096) : Met l yX6_lowest wsX6_lowest ({ frames := 0, cells := 0, slots := 0, locals := 0 }) (va_Pc [.int (nI y)] (fun _ => True)) (va_Qi (fun (r : Int32) (_ : Unit) => r = nI (low y)) (fun _ t => True) wN) 0 0 wN := by
  refine Met.ofW (cc := cX6_lowest) (maxL := 1) (ret := (some .int)) (by decide) rfl ?_
  intro p e s m args below meth c s₁ B hml hv
  obtain ⟨rfl, -⟩ := hv
  have hx := B.exec
  have hb := B.bytes
  have hr := B.returns
  have hts := atoms_spec (ws := wsX6_lowest) B.pre
  have hown : s.vm.findClass RX6 = some m.cls := findClass_of_methodNamed B.named
  have hlocks := B.notSynchronized
  have hS : va_S wN s.heap s.heap [] := va_S.rf
  have hl := lv_entry ([.int (nI y)]) (n := 1) (Nat.le_of_ble_eq_true rfl)
  rw [lg_entry_eq]
  generalize (lg_sl ([.int (nI y)]) ++ List.replicate (1 - (lg_sl ([.int (nI y)])).length) Slot.unset).toArray = ls at hl ⊢
  have hl : lv_has ls 1 [(0, .int (nI y))] := hl
  refine lv_iload_n hx hb dX6_lowest_0 rfl (lv_at hl 0 rfl) ?_
  refine lv_iload_n hx hb dX6_lowest_1 rfl (lv_at hl 0 rfl) ?_
  refine lv_ineg hx hb dX6_lowest_2 ?_
  refine lv_iand hx hb dX6_lowest_3 ?_
  exact W.iret (v := ((nI y) &&& (-(nI y)))) hx hb hr (fun t ht hW => ⟨⟨_, (), rfl, (nI_low hy), trivial⟩, hS.F ht⟩) hS.2.2 dX6_lowest_4
set_option maxHeartbeats 4000000 in
set_option maxRecDepth 100000 in
theorem c_X6_canReach (l : Launch) (b d0 le : Nat) (hb5 : b ≤ 99999) (hd1 : 1 ≤ d0) (hd4 : d0 ≤ 4) : Met l yX6_canReach wsX6_canReach ({ frames := 0, cells := 0, slots := 0, locals := 0 }) (va_Pc [.int (nI b), .int (nI d0), .int (nI le)] (fun _ => True)) (va_Qi (fun (r : Int32) (_ : Unit) => r = bI (decide (¬ nI (grN b d0) < nI le))) (fun _ t => True) wN) 0 0 wN := by
  refine Met.ofW (cc := cX6_canReach) (maxL := 5) (ret := (some .boolean)) (by decide) rfl ?_
  intro p e s m args below meth c s₁ B hml hv
  obtain ⟨rfl, -⟩ := hv
  have hx := B.exec
  have hb := B.bytes
  have hr := B.returns
  have hts := atoms_spec (ws := wsX6_canReach) B.pre
  have hown : s.vm.findClass RX6 = some m.cls := findClass_of_methodNamed B.named
  have hlocks := B.notSynchronized
  have hS : va_S wN s.heap s.heap [] := va_S.rf
  have hl := lv_entry ([.int (nI b), .int (nI d0), .int (nI le)]) (n := 5) (Nat.le_of_ble_eq_true rfl)
  rw [lg_entry_eq]
  generalize (lg_sl ([.int (nI b), .int (nI d0), .int (nI le)]) ++ List.replicate (5 - (lg_sl ([.int (nI b), .int (nI d0), .int (nI le)])).length) Slot.unset).toArray = ls at hl ⊢
  have hl : lv_has ls 5 [(0, .int (nI b)), (1, .int (nI d0)), (2, .int (nI le))] := hl
  refine lv_iload_n hx hb dX6_canReach_0 rfl (lv_at hl 0 rfl) ?_
  refine lv_istore_n (lv' := [(3, .int (nI b)), (0, .int (nI b)), (1, .int (nI d0)), (2, .int (nI le))]) hx hb dX6_canReach_1 rfl hl (by decide) rfl (fun ls hl => ?_)
  refine lv_iload_n hx hb dX6_canReach_2 rfl (lv_at hl 2 rfl) ?_
  refine lv_istore (lv' := [(4, .int (nI d0)), (3, .int (nI b)), (0, .int (nI b)), (1, .int (nI d0)), (2, .int (nI le))]) hx hb dX6_canReach_3 hl (by decide) rfl (fun ls hl => ?_)
  by_cases hb0 : b = 0
  · refine lv_iload hx hb dX6_canReach_5 (lv_at hl 0 rfl) ?_
    refine lv_iconst (v := 4) hx hb dX6_canReach_7 (by decide) ?_
    refine lv_icmp_ge (tgt := 29) hx hb dX6_canReach_8 (by decide) (fun c_1 => ?_) (fun c_1 => ?_)
    · refine lv_iload_n hx hb dX6_canReach_29 rfl (lv_at hl 1 rfl) ?_
      refine lv_iload_n hx hb dX6_canReach_30 rfl (lv_at hl 4 rfl) ?_
      refine lv_icmp_lt (tgt := 38) hx hb dX6_canReach_31 (by decide) (fun c_2 => ?_) (fun c_2 => ?_)
      · refine lv_iconst (v := 0) hx hb dX6_canReach_38 (by decide) ?_
        exact W.zret (v := 0) hx hb hr rfl (fun t ht hW => ⟨⟨_, (), rfl, (by show _ = _; rw [show b = grN b d0 from by rw [grN, if_pos hb0]; exact hb0] at c_2; exact bI_ne (fun z => z c_2)), trivial⟩, hS.F ht⟩) hS.2.2 dX6_canReach_39
      · refine lv_iconst (v := 1) hx hb dX6_canReach_34 (by decide) ?_
        refine lv_goto (tgt := 39) hx hb dX6_canReach_35 (by decide) ?_
        exact W.zret (v := 1) hx hb hr rfl (fun t ht hW => ⟨⟨_, (), rfl, (by show _ = _; rw [show b = grN b d0 from by rw [grN, if_pos hb0]; exact hb0] at c_2; exact bI_eq c_2), trivial⟩, hS.F ht⟩) hS.2.2 dX6_canReach_39
    · refine lv_iload_n hx hb dX6_canReach_11 rfl (lv_at hl 2 rfl) ?_
      refine lv_if_le (tgt := 29) hx hb dX6_canReach_12 (by decide) (fun c_3 => ?_) (fun c_3 => ?_)
      · refine lv_iload_n hx hb dX6_canReach_29 rfl (lv_at hl 1 rfl) ?_
        refine lv_iload_n hx hb dX6_canReach_30 rfl (lv_at hl 4 rfl) ?_
        refine lv_icmp_lt (tgt := 38) hx hb dX6_canReach_31 (by decide) (fun c_4 => ?_) (fun c_4 => ?_)
        · refine lv_iconst (v := 0) hx hb dX6_canReach_38 (by decide) ?_
          exact W.zret (v := 0) hx hb hr rfl (fun t ht hW => ⟨⟨_, (), rfl, (by show _ = _; rw [show b = grN b d0 from by rw [grN, if_pos hb0]; exact hb0] at c_4; exact bI_ne (fun z => z c_4)), trivial⟩, hS.F ht⟩) hS.2.2 dX6_canReach_39
        · refine lv_iconst (v := 1) hx hb dX6_canReach_34 (by decide) ?_
          refine lv_goto (tgt := 39) hx hb dX6_canReach_35 (by decide) ?_
          exact W.zret (v := 1) hx hb hr rfl (fun t ht hW => ⟨⟨_, (), rfl, (by show _ = _; rw [show b = grN b d0 from by rw [grN, if_pos hb0]; exact hb0] at c_4; exact bI_eq c_4), trivial⟩, hS.F ht⟩) hS.2.2 dX6_canReach_39
      · exact absurd (by rw [hb0]; exact Int32.le_refl 0) c_3
  · have hgr : grN b d0 = gw9 (4 - d0) b := if_neg hb0
    have L4 : ∀ (k : Nat) (i mm : Nat) (H : Heap) (locs : List Loc) (ls : Array Slot), i + k = 4 → 1 ≤ i → gw9 k mm = grN b d0 → va_S wN s.heap H locs → lv_has ls 5 [(4, .int (nI i)), (3, .int (nI mm)), (0, .int (nI b)), (1, .int (nI d0)), (2, .int (nI le))] → W p l e (headSpec wsX6_canReach ({ frames := 0, cells := 0, slots := 0, locals := 0 })).room s m ([.int (nI b), .int (nI d0), .int (nI le)] : List Value).toArray below meth c H locs 0 0 (MQ below (va_Qi (fun (r : Int32) (_ : Unit) => r = bI (decide (¬ nI (grN b d0) < nI le))) (fun _ t => True) wN) ([.int (nI b), .int (nI d0), .int (nI le)] : List Value).toArray s 0 0 wN) (F0 m 5 ls []) := by
      intro k
      induction k with
      | zero =>
        intro i mm H locs ls hi hi1 hres hS hl
        refine lv_iload hx hb dX6_canReach_5 (lv_at hl 0 rfl) ?_
        refine lv_iconst (v := 4) hx hb dX6_canReach_7 (by decide) ?_
        refine lv_icmp_ge (tgt := 29) hx hb dX6_canReach_8 (by decide) (fun c_5 => ?_) (fun c_5 => ?_)
        · refine lv_iload_n hx hb dX6_canReach_29 rfl (lv_at hl 1 rfl) ?_
          refine lv_iload_n hx hb dX6_canReach_30 rfl (lv_at hl 4 rfl) ?_
          refine lv_icmp_lt (tgt := 38) hx hb dX6_canReach_31 (by decide) (fun c_6 => ?_) (fun c_6 => ?_)
          · refine lv_iconst (v := 0) hx hb dX6_canReach_38 (by decide) ?_
            exact W.zret (v := 0) hx hb hr rfl (fun t ht hW => ⟨⟨_, (), rfl, (by show _ = _; rw [show mm = grN b d0 from hres] at c_6; exact bI_ne (fun z => z c_6)), trivial⟩, hS.F ht⟩) hS.2.2 dX6_canReach_39
          · refine lv_iconst (v := 1) hx hb dX6_canReach_34 (by decide) ?_
            refine lv_goto (tgt := 39) hx hb dX6_canReach_35 (by decide) ?_
            exact W.zret (v := 1) hx hb hr rfl (fun t ht hW => ⟨⟨_, (), rfl, (by show _ = _; rw [show mm = grN b d0 from hres] at c_6; exact bI_eq c_6), trivial⟩, hS.F ht⟩) hS.2.2 dX6_canReach_39
        · exact absurd (nI_le (a := 4) (b := i) (by omega) (by omega)) c_5
      | succ k ihk =>
        intro i mm H locs ls hi hi1 hres hS hl
        refine lv_iload hx hb dX6_canReach_5 (lv_at hl 0 rfl) ?_
        refine lv_iconst (v := 4) hx hb dX6_canReach_7 (by decide) ?_
        refine lv_icmp_ge (tgt := 29) hx hb dX6_canReach_8 (by decide) (fun c_7 => ?_) (fun c_7 => ?_)
        · exact absurd ((nI_leI (a := 4) (b := i) (by omega) (by omega)).mp c_7) (by omega)
        · refine lv_iload_n hx hb dX6_canReach_11 rfl (lv_at hl 2 rfl) ?_
          refine lv_if_le (tgt := 29) hx hb dX6_canReach_12 (by decide) (fun c_8 => ?_) (fun c_8 => ?_)
          · exact absurd c_8 (nI_nle (by omega) (by omega))
          · refine lv_bipush (v := 10) hx hb dX6_canReach_15 (by decide) ?_
            refine lv_iload_n hx hb dX6_canReach_17 rfl (lv_at hl 1 rfl) ?_
            refine lv_imul hx hb dX6_canReach_18 ?_
            rw [show 10 * (nI mm) = nI (10 * mm) from pk_mul 10 mm]
            refine lv_bipush (v := 9) hx hb dX6_canReach_19 (by decide) ?_
            refine lv_iadd hx hb dX6_canReach_21 ?_
            rw [show (nI (10 * mm)) + 9 = nI ((10 * mm) + 9) from nI_add (10 * mm) 9]
            refine lv_istore_n (lv' := [(3, .int (nI ((10 * mm) + 9))), (4, .int (nI i)), (0, .int (nI b)), (1, .int (nI d0)), (2, .int (nI le))]) hx hb dX6_canReach_22 rfl hl (by decide) rfl (fun ls hl => ?_)
            refine lv_iinc (v := (nI (i + 1))) (lv' := [(4, .int (nI (i + 1))), (3, .int (nI ((10 * mm) + 9))), (0, .int (nI b)), (1, .int (nI d0)), (2, .int (nI le))]) hx hb dX6_canReach_23 hl (k := 1) rfl (nI_1 _) (by decide) rfl (fun ls hl => ?_)
            refine lv_goto (tgt := 5) hx hb dX6_canReach_26 (by decide) ?_
            exact ihk (i + 1) ((10 * mm) + 9) _ _ ls (by omega) (by omega) (by rw [← hres, gw9, Nat.mul_comm mm 10]) hS (lv_sub hl [0, 1, 2, 3, 4] rfl)
    exact L4 (4 - d0) d0 b _ _ ls (by omega) hd1 hgr.symm hS (lv_sub hl [0, 1, 2, 3, 4] rfl)
set_option maxHeartbeats 4000000 in
set_option maxRecDepth 100000 in
theorem c_X6_thrown (l : Launch) (E : wE) (g : Nat → Nat) (f : Nat → Int32) (th : Int32) (aa sv : Nat → Int32) (sm : Nat) (tx : Nat → Int32) (ln : Nat) (ro : Nat → Int32) (ai : Nat) (wr : Bool) (dg : Int64)  : Met l yX6_thrown wsX6_thrown ({ frames := 0, cells := 0, slots := 0, locals := 0 }) (va_Pc [.ref ((g 0))] (wS E 6 g (wP E 6 g (moF E g th f aa sv sm tx ln ro ai wr dg)))) (va_Qi (fun (r : Int32) (_ : Unit) => r = th) (fun _ t => True) wN) 0 0 wN := by
  refine Met.ofW (cc := cX6_thrown) (maxL := 1) (ret := (some .int)) (by decide) rfl ?_
  intro p e s m args below meth c s₁ B hml hv
  obtain ⟨rfl, hP, hK, hI⟩ := hv
  have hx := B.exec
  have hb := B.bytes
  have hr := B.returns
  have hts := atoms_spec (ws := wsX6_thrown) B.pre
  have hown : s.vm.findClass RX6 = some m.cls := findClass_of_methodNamed B.named
  have hlocks := B.notSynchronized
  have hS : va_S wN s.heap s.heap [] := va_S.rf
  have hin6 : ∀ w ∈ wsX60, w ∈ wsX6_thrown := by decide +kernel
  have hl := lv_entry ([.ref ((g 0))]) (n := 1) (Nat.le_of_ble_eq_true rfl)
  rw [lg_entry_eq]
  generalize (lg_sl ([.ref ((g 0))]) ++ List.replicate (1 - (lg_sl ([.ref ((g 0))])).length) Slot.unset).toArray = ls at hl ⊢
  have hl : lv_has ls 1 [(0, .ref ((g 0)))] := hl
  refine lv_aload_n hx hb dX6_thrown_0 rfl (lv_at hl 0 rfl) ?_
  refine w_get (C := RX6) (T := TX6) (N := 11) (ci := 6) (v := .int th) hx hb hts hin6 hown hK hP 0 (by decide) rfl rfl 0 (by decide) (hts (.fieldLink RX6 25 "MixedBlocksModel" "thrown" "I") (List.mem_of_getElem? (i := 1) rfl)) (fun _ h9 => h9) rfl dX6_thrown_1 ?_
  exact W.iret (v := th) hx hb hr (fun t ht hW => ⟨⟨_, (), rfl, rfl, trivial⟩, hS.F ht⟩) hS.2.2 dX6_thrown_4
set_option maxHeartbeats 4000000 in
set_option maxRecDepth 100000 in
theorem c_X6_holds (l : Launch) (E : wE) (g : Nat → Nat) (f : Nat → Int32) (th : Int32) (aa sv : Nat → Int32) (sm : Nat) (tx : Nat → Int32) (ln : Nat) (ro : Nat → Int32) (ai : Nat) (wr : Bool) (dg : Int64) (x : Int32) : Met l yX6_holds wsX6_holds ({ frames := 0, cells := 0, slots := 0, locals := 0 }) (va_Pc [.ref ((g 0)), .int x] (wS E 6 g (wP E 6 g (moF E g th f aa sv sm tx ln ro ai wr dg)))) (va_Qi (fun (r : Int32) (_ : Unit) => r = bI (decide (x = 0))) (fun _ t => wP E 6 g (moF E g x f aa sv sm tx ln ro ai wr dg) (t.heap)) (wF 6 g)) 0 0 (wF 6 g) := by
  refine Met.ofW (cc := cX6_holds) (maxL := 2) (ret := (some .boolean)) (by decide) rfl ?_
  intro p e s m args below meth c s₁ B hml hv
  obtain ⟨rfl, hP, hK, hI⟩ := hv
  have hx := B.exec
  have hb := B.bytes
  have hr := B.returns
  have hts := atoms_spec (ws := wsX6_holds) B.pre
  have hown : s.vm.findClass RX6 = some m.cls := findClass_of_methodNamed B.named
  have hlocks := B.notSynchronized
  have hS : va_S (wF 6 g) s.heap s.heap [] := va_S.rf
  have hin6 : ∀ w ∈ wsX60, w ∈ wsX6_holds := by decide +kernel
  have hA : ∀ k, k < 6 → (wF 6 g) (g k) := wF_in
  have hl := lv_entry ([.ref ((g 0)), .int x]) (n := 2) (Nat.le_of_ble_eq_true rfl)
  rw [lg_entry_eq]
  generalize (lg_sl ([.ref ((g 0)), .int x]) ++ List.replicate (2 - (lg_sl ([.ref ((g 0)), .int x])).length) Slot.unset).toArray = ls at hl ⊢
  have hl : lv_has ls 2 [(0, .ref ((g 0))), (1, .int x)] := hl
  refine lv_aload_n hx hb dX6_holds_0 rfl (lv_at hl 0 rfl) ?_
  refine lv_iload_n hx hb dX6_holds_1 rfl (lv_at hl 1 rfl) ?_
  refine w_put (C := RX6) (T := TX6) (N := 11) (ci := 6) (v := .int x) (ty := .int) hx hb hts hin6 tyX6 tyX6_ok nmX6 hown hK hP hI hA hS 0 (by decide) rfl rfl 0 (by decide) (hts (.fieldLink RX6 25 "MixedBlocksModel" "thrown" "I") (List.mem_of_getElem? (i := 1) rfl)) (fun _ h9 => h9) rfl (by decide +kernel) rfl rfl (Nat.le_of_ble_eq_true rfl) dX6_holds_2 (moF E g x f aa sv sm tx ln ro ai wr dg) rfl mo_ne0 (fun H_1 locs_1 hP hS => ?_)
  refine lv_iload_n hx hb dX6_holds_5 rfl (lv_at hl 1 rfl) ?_
  refine lv_if_ne (tgt := 13) hx hb dX6_holds_6 (by decide) (fun c_2 => ?_) (fun c_2 => ?_)
  · refine lv_iconst (v := 0) hx hb dX6_holds_13 (by decide) ?_
    exact W.zret (v := 0) hx hb hr rfl (fun t ht hW => ⟨⟨_, (), rfl, (bI_ne c_2), (by show wP E 6 g _ t.heap; rw [ht]; exact hP)⟩, hS.F ht⟩) hS.2.2 dX6_holds_14
  · refine lv_iconst (v := 1) hx hb dX6_holds_9 (by decide) ?_
    refine lv_goto (tgt := 14) hx hb dX6_holds_10 (by decide) ?_
    exact W.zret (v := 1) hx hb hr rfl (fun t ht hW => ⟨⟨_, (), rfl, (bI_eq c_2), (by show wP E 6 g _ t.heap; rw [ht]; exact hP)⟩, hS.F ht⟩) hS.2.2 dX6_holds_14
set_option maxHeartbeats 4000000 in
set_option maxRecDepth 100000 in
theorem c_X6_isBlock (l : Launch) (E : wE) (g : Nat → Nat) (th : Int32) (aa sv : Nat → Int32) (sm : Nat) (tx : Nat → Int32) (ln : Nat) (ro : Nat → Int32) (ai : Nat) (wr : Bool) (dg : Int64) (nb : Nat) (va : Nat → Int32) (se : Int32) (rv : Nat → Nat → Int32) (x : Int32) (hnb2 : 2 ≤ nb) (hnb : nb ≤ 12) : Met l yX6_isBlock wsX6_isBlock ({ frames := 1, cells := 0, slots := 0, locals := 22 }) (va_Pc [.ref ((g 0)), .int x] (wS E 6 g (wP E 6 g (moF E g th (mdE nb va se rv) aa sv sm tx ln ro ai wr dg)))) (va_Qi (fun (r : Int32) (_ : Unit) => r = bI (inB x 0 (nI (nb - 1)))) (fun _ t => True) wN) 0 0 wN := by
  refine Met.ofW (cc := cX6_isBlock) (maxL := 2) (ret := (some .boolean)) (by decide) rfl ?_
  intro p e s m args below meth c s₁ B hml hv
  obtain ⟨rfl, hP, hK, hI⟩ := hv
  have hx := B.exec
  have hb := B.bytes
  have hr := B.returns
  have hts := atoms_spec (ws := wsX6_isBlock) B.pre
  have hown : s.vm.findClass RX6 = some m.cls := findClass_of_methodNamed B.named
  have hlocks := B.notSynchronized
  have hS : va_S wN s.heap s.heap [] := va_S.rf
  have hin6 : ∀ w ∈ wsX60, w ∈ wsX6_isBlock := by decide +kernel
  have hl := lv_entry ([.ref ((g 0)), .int x]) (n := 2) (Nat.le_of_ble_eq_true rfl)
  rw [lg_entry_eq]
  generalize (lg_sl ([.ref ((g 0)), .int x]) ++ List.replicate (2 - (lg_sl ([.ref ((g 0)), .int x])).length) Slot.unset).toArray = ls at hl ⊢
  have hl : lv_has ls 2 [(0, .ref ((g 0))), (1, .int x)] := hl
  refine lv_iload_n hx hb dX6_isBlock_0 rfl (lv_at hl 1 rfl) ?_
  refine lv_iconst (v := 0) hx hb dX6_isBlock_1 (by decide) ?_
  refine lv_aload_n hx hb dX6_isBlock_2 rfl (lv_at hl 0 rfl) ?_
  refine w_get (C := RX6) (T := TX6) (N := 11) (ci := 6) (v := .ref ((g 1))) hx hb hts hin6 hown hK hP 0 (by decide) rfl rfl 1 (by decide) (hts (.fieldLink RX6 7 "MixedBlocksModel" "s" "[I") (List.mem_of_getElem? (i := 1) rfl)) (fun _ h9 => h9) rfl dX6_isBlock_3 ?_
  refine lv_iconst (v := 0) hx hb dX6_isBlock_6 (by decide) ?_
  refine w_iald hx hb hK hP 1 (by decide) rfl (vp_in_nI (n := 0) (by decide) (by decide)) dX6_isBlock_7 ?_
  rw [mdE_0]
  refine lv_iconst (v := 1) hx hb dX6_isBlock_8 (by decide) ?_
  refine lv_isub hx hb dX6_isBlock_9 ?_
  rw [show (nI nb) - 1 = nI (nb - 1) from pk_sub (a := nb) (b := 1) (by omega)]
  refine va_calli (va_runS (As := [.int x, .int 0, .int (nI (nb - 1))]) (rest := []) ⟨hx, hb, hml, hown, hts⟩ (c_X6_in l x 0 (nI (nb - 1))) (va_cwS 3 hts gX6_isBlock_X6_in rfl rfl rfl (by decide +kernel) ⟨Nat.le_of_ble_eq_true rfl, Nat.le_of_ble_eq_true rfl⟩) ⟨wU_blind, fun U hU hW => ⟨rfl, trivial⟩⟩ rfl rfl hl.1 rfl (lv_room (Nat.le_of_ble_eq_true rfl)) dX6_isBlock_10 ⟨Nat.zero_le _, Nat.zero_le _⟩) hS (fun q _ h => h.elim) (fun q h => h.elim) (fun r_1 uu t H_1 locs_1 ht hvm hw hB hz1 hk1 hS => ?_)
  have hP := hP.same hk1
  obtain rfl : r_1 = (bI (inB x 0 (nI (nb - 1)))) := hw
  exact W.zret (v := (bI (inB x 0 (nI (nb - 1))))) hx hb hr (bI_n _) (fun t ht hW => ⟨⟨_, (), rfl, rfl, trivial⟩, hS.F ht⟩) hS.2.2 dX6_isBlock_13
set_option maxHeartbeats 4000000 in
set_option maxRecDepth 100000 in
theorem c_X6_maskOf (l : Launch) (E : wE) (g : Nat → Nat) (th : Int32) (aa sv : Nat → Int32) (sm : Nat) (tx : Nat → Int32) (ln : Nat) (ro : Nat → Int32) (ai : Nat) (wr : Bool) (dg : Int64) (nb : Nat) (va : Nat → Int32) (se : Int32) (rv : Nat → Nat → Int32) (k0 : Nat) (hk0 : k0 < 10000) (hnb2 : 2 ≤ nb) (hnb : nb ≤ 12) : Met l yX6_maskOf wsX6_maskOf ({ frames := 1, cells := 0, slots := 0, locals := 20 }) (va_Pc [.ref ((g 0)), .int (nI k0)] (wS E 6 g (wP E 6 g (moF E g th (mdE nb va se rv) aa sv sm tx ln ro ai wr dg)))) (va_Qi (fun (r : Int32) (_ : Unit) => r = nI (mskM nb k0)) (fun _ t => True) wN) 0 0 wN := by
  refine Met.ofW (cc := cX6_maskOf) (maxL := 7) (ret := (some .int)) (by decide) rfl ?_
  intro p e s m args below meth c s₁ B hml hv
  obtain ⟨rfl, hP, hK, hI⟩ := hv
  have hx := B.exec
  have hb := B.bytes
  have hr := B.returns
  have hts := atoms_spec (ws := wsX6_maskOf) B.pre
  have hown : s.vm.findClass RX6 = some m.cls := findClass_of_methodNamed B.named
  have hlocks := B.notSynchronized
  have hS : va_S wN s.heap s.heap [] := va_S.rf
  have hin6 : ∀ w ∈ wsX60, w ∈ wsX6_maskOf := by decide +kernel
  have hl := lv_entry ([.ref ((g 0)), .int (nI k0)]) (n := 7) (Nat.le_of_ble_eq_true rfl)
  rw [lg_entry_eq]
  generalize (lg_sl ([.ref ((g 0)), .int (nI k0)]) ++ List.replicate (7 - (lg_sl ([.ref ((g 0)), .int (nI k0)])).length) Slot.unset).toArray = ls at hl ⊢
  have hl : lv_has ls 7 [(0, .ref ((g 0))), (1, .int (nI k0))] := hl
  have hdg := degN_le ((k0 * 7919 + 17) % 30269 % 16)
  have hmn9 := mnN_le nb ((k0 * 7919 + 17) % 30269 % 16)
  refine lv_iload_n hx hb dX6_maskOf_0 rfl (lv_at hl 1 rfl) ?_
  refine lv_sipush (v := 7919) hx hb dX6_maskOf_1 (by decide) ?_
  refine lv_imul hx hb dX6_maskOf_4 ?_
  rw [show (nI k0) * 7919 = nI (k0 * 7919) from pk_mul k0 7919]
  refine lv_bipush (v := 17) hx hb dX6_maskOf_5 (by decide) ?_
  refine lv_iadd hx hb dX6_maskOf_7 ?_
  rw [show (nI (k0 * 7919)) + 17 = nI ((k0 * 7919) + 17) from nI_add (k0 * 7919) 17]
  refine lv_sipush (v := 30269) hx hb dX6_maskOf_8 (by decide) ?_
  refine lv_irem hx hb dX6_maskOf_11 (by decide) ?_
  rw [show (nI ((k0 * 7919) + 17)) - (nI ((k0 * 7919) + 17)) / 30269 * 30269 = nI (((k0 * 7919) + 17) % 30269) from pk_rem (a := ((k0 * 7919) + 17)) (d := 30269) (by omega) (by omega) (by omega)]
  refine lv_istore_n (lv' := [(2, .int (nI (((k0 * 7919) + 17) % 30269))), (0, .ref ((g 0))), (1, .int (nI k0))]) hx hb dX6_maskOf_12 rfl hl (by decide) rfl (fun ls hl => ?_)
  refine lv_iload_n hx hb dX6_maskOf_13 rfl (lv_at hl 0 rfl) ?_
  refine lv_bipush (v := 16) hx hb dX6_maskOf_14 (by decide) ?_
  refine lv_irem hx hb dX6_maskOf_16 (by decide) ?_
  rw [show (nI (((k0 * 7919) + 17) % 30269)) - (nI (((k0 * 7919) + 17) % 30269)) / 16 * 16 = nI ((((k0 * 7919) + 17) % 30269) % 16) from pk_rem (a := (((k0 * 7919) + 17) % 30269)) (d := 16) (by omega) (by omega) (by omega)]
  refine va_calli (va_runS (As := [.int (nI ((((k0 * 7919) + 17) % 30269) % 16))]) (rest := []) ⟨hx, hb, hml, hown, hts⟩ (c_X6_degree l ((((k0 * 7919) + 17) % 30269) % 16) (by omega)) (va_cwS 1 hts gX6_maskOf_X6_degree rfl rfl rfl (by decide +kernel) ⟨Nat.le_of_ble_eq_true rfl, Nat.le_of_ble_eq_true rfl⟩) ⟨wU_blind, fun U hU hW => ⟨rfl, trivial⟩⟩ rfl rfl hl.1 rfl (lv_room (Nat.le_of_ble_eq_true rfl)) dX6_maskOf_17 ⟨Nat.zero_le _, Nat.zero_le _⟩) hS (fun q _ h => h.elim) (fun q h => h.elim) (fun r_1 uu t H_1 locs_1 ht hvm hw hB hz1 hk1 hS => ?_)
  have hP := hP.same hk1
  obtain rfl : r_1 = (nI (degN ((((k0 * 7919) + 17) % 30269) % 16))) := hw
  refine lv_istore_n (lv' := [(3, .int ((nI (degN ((((k0 * 7919) + 17) % 30269) % 16))))), (2, .int (nI (((k0 * 7919) + 17) % 30269))), (0, .ref ((g 0))), (1, .int (nI k0))]) hx hb dX6_maskOf_20 rfl hl (by decide) rfl (fun ls hl => ?_)
  refine lv_iload_n hx hb dX6_maskOf_21 rfl (lv_at hl 0 rfl) ?_
  refine lv_aload_n hx hb dX6_maskOf_22 rfl (lv_at hl 2 rfl) ?_
  refine w_get (C := RX6) (T := TX6) (N := 11) (ci := 6) (v := .ref ((g 1))) hx hb hts hin6 hown hK hP 0 (by decide) rfl rfl 1 (by decide) (hts (.fieldLink RX6 7 "MixedBlocksModel" "s" "[I") (List.mem_of_getElem? (i := 1) rfl)) (fun _ h9 => h9) rfl dX6_maskOf_23 ?_
  refine lv_iconst (v := 0) hx hb dX6_maskOf_26 (by decide) ?_
  refine w_iald hx hb hK hP 1 (by decide) rfl (vp_in_nI (n := 0) (by decide) (by decide)) dX6_maskOf_27 ?_
  rw [mdE_0]
  refine lv_icmp_le (tgt := 40) hx hb dX6_maskOf_28 (by decide) (fun c_2 => ?_) (fun c_2 => ?_)
  · have n_2 : (degN ((((k0 * 7919) + 17) % 30269) % 16)) ≤ nb := (nI_leI (a := (degN ((((k0 * 7919) + 17) % 30269) % 16))) (b := nb) (by omega) (by omega)).mp c_2
    refine lv_iload_n hx hb dX6_maskOf_40 rfl (lv_at hl 0 rfl) ?_
    have hmn : mnN nb ((k0 * 7919 + 17) % 30269 % 16) = (degN ((((k0 * 7919) + 17) % 30269) % 16)) := if_neg (by omega)
    refine lv_topi (fun z9 ez9 => ?_)
    obtain rfl : z9 = nI (mnN nb ((k0 * 7919 + 17) % 30269 % 16)) := by rw [hmn]; exact ez9
    refine lv_istore_n (lv' := [(3, .int (nI (mnN nb ((k0 * 7919 + 17) % 30269 % 16)))), (2, .int (nI (((k0 * 7919) + 17) % 30269))), (0, .ref ((g 0))), (1, .int (nI k0))]) hx hb dX6_maskOf_41 rfl hl (by decide) rfl (fun ls hl => ?_)
    refine lv_iconst (v := 0) hx hb dX6_maskOf_42 (by decide) ?_
    refine lv_istore (lv' := [(4, .int 0), (3, .int (nI (mnN nb ((k0 * 7919 + 17) % 30269 % 16)))), (2, .int (nI (((k0 * 7919) + 17) % 30269))), (0, .ref ((g 0))), (1, .int (nI k0))]) hx hb dX6_maskOf_43 hl (by decide) rfl (fun ls hl => ?_)
    refine lv_iconst (v := 0) hx hb dX6_maskOf_45 (by decide) ?_
    refine lv_istore (lv' := [(5, .int 0), (4, .int 0), (3, .int (nI (mnN nb ((k0 * 7919 + 17) % 30269 % 16)))), (2, .int (nI (((k0 * 7919) + 17) % 30269))), (0, .ref ((g 0))), (1, .int (nI k0))]) hx hb dX6_maskOf_46 hl (by decide) rfl (fun ls hl => ?_)
    have L48 : ∀ (k : Nat) (i x m9 : Nat) (H : Heap) (locs : List Loc) (ls : Array Slot), i + k = (mnN nb ((k0 * 7919 + 17) % 30269 % 16)) → x < 30269 → pc m9 = i → m9 < 2 ^ nb → mkS nb k x m9 = mskM nb k0 → wP E 6 g (moF E g th (mdE nb va se rv) aa sv sm tx ln ro ai wr dg) H → va_S wN s.heap H locs → lv_has ls 7 [(5, .int (nI i)), (2, .int (nI x)), (4, .int (nI m9)), (3, .int (nI (mnN nb ((k0 * 7919 + 17) % 30269 % 16)))), (0, .ref ((g 0))), (1, .int (nI k0))] → W p l e (headSpec wsX6_maskOf ({ frames := 1, cells := 0, slots := 0, locals := 20 })).room s m ([.ref ((g 0)), .int (nI k0)] : List Value).toArray below meth c H locs 0 0 (MQ below (va_Qi (fun (r : Int32) (_ : Unit) => r = nI (mskM nb k0)) (fun _ t => True) wN) ([.ref ((g 0)), .int (nI k0)] : List Value).toArray s 0 0 wN) (F0 m 48 ls []) := by
      intro k
      induction k with
      | zero =>
        intro i x m9 H locs ls hi hx9 hpc hm hres hP hS hl
        refine lv_iload hx hb dX6_maskOf_48 (lv_at hl 0 rfl) ?_
        refine lv_iload_n hx hb dX6_maskOf_50 rfl (lv_at hl 3 rfl) ?_
        refine lv_icmp_ge (tgt := 119) hx hb dX6_maskOf_51 (by decide) (fun c_3 => ?_) (fun c_3 => ?_)
        · have n_3 : (mnN nb ((k0 * 7919 + 17) % 30269 % 16)) ≤ i := (nI_leI (a := (mnN nb ((k0 * 7919 + 17) % 30269 % 16))) (b := i) (by omega) (by omega)).mp c_3
          refine lv_iload hx hb dX6_maskOf_119 (lv_at hl 2 rfl) ?_
          exact W.iret (v := (nI m9)) hx hb hr (fun t ht hW => ⟨⟨_, (), rfl, (by show nI m9 = nI _; rw [← hres]; rfl), trivial⟩, hS.F ht⟩) hS.2.2 dX6_maskOf_121
        · have n_3 : ¬ ((mnN nb ((k0 * 7919 + 17) % 30269 % 16)) ≤ i) := fun z => c_3 ((nI_leI (a := (mnN nb ((k0 * 7919 + 17) % 30269 % 16))) (b := i) (by omega) (by omega)).mpr z)
          exfalso
          omega
      | succ k ihk =>
        intro i x m9 H locs ls hi hx9 hpc hm hres hP hS hl
        refine lv_iload hx hb dX6_maskOf_48 (lv_at hl 0 rfl) ?_
        refine lv_iload_n hx hb dX6_maskOf_50 rfl (lv_at hl 3 rfl) ?_
        refine lv_icmp_ge (tgt := 119) hx hb dX6_maskOf_51 (by decide) (fun c_4 => ?_) (fun c_4 => ?_)
        · have n_4 : (mnN nb ((k0 * 7919 + 17) % 30269 % 16)) ≤ i := (nI_leI (a := (mnN nb ((k0 * 7919 + 17) % 30269 % 16))) (b := i) (by omega) (by omega)).mp c_4
          exfalso
          omega
        · have n_4 : ¬ ((mnN nb ((k0 * 7919 + 17) % 30269 % 16)) ≤ i) := fun z => c_4 ((nI_leI (a := (mnN nb ((k0 * 7919 + 17) % 30269 % 16))) (b := i) (by omega) (by omega)).mpr z)
          refine lv_iload_n hx hb dX6_maskOf_54 rfl (lv_at hl 1 rfl) ?_
          refine lv_sipush (v := 171) hx hb dX6_maskOf_55 (by decide) ?_
          refine lv_imul hx hb dX6_maskOf_58 ?_
          rw [show (nI x) * 171 = nI (x * 171) from pk_mul x 171]
          refine lv_bipush (v := 11) hx hb dX6_maskOf_59 (by decide) ?_
          refine lv_iadd hx hb dX6_maskOf_61 ?_
          rw [show (nI (x * 171)) + 11 = nI ((x * 171) + 11) from nI_add (x * 171) 11]
          refine lv_sipush (v := 30269) hx hb dX6_maskOf_62 (by decide) ?_
          refine lv_irem hx hb dX6_maskOf_65 (by decide) ?_
          rw [show (nI ((x * 171) + 11)) - (nI ((x * 171) + 11)) / 30269 * 30269 = nI (((x * 171) + 11) % 30269) from pk_rem (a := ((x * 171) + 11)) (d := 30269) (by omega) (by omega) (by omega)]
          refine lv_istore_n (lv' := [(2, .int (nI (((x * 171) + 11) % 30269))), (5, .int (nI i)), (4, .int (nI m9)), (3, .int (nI (mnN nb ((k0 * 7919 + 17) % 30269 % 16)))), (0, .ref ((g 0))), (1, .int (nI k0))]) hx hb dX6_maskOf_66 rfl hl (by decide) rfl (fun ls hl => ?_)
          refine lv_iload_n hx hb dX6_maskOf_67 rfl (lv_at hl 0 rfl) ?_
          refine lv_aload_n hx hb dX6_maskOf_68 rfl (lv_at hl 4 rfl) ?_
          refine w_get (C := RX6) (T := TX6) (N := 11) (ci := 6) (v := .ref ((g 1))) hx hb hts hin6 hown hK hP 0 (by decide) rfl rfl 1 (by decide) (hts (.fieldLink RX6 7 "MixedBlocksModel" "s" "[I") (List.mem_of_getElem? (i := 1) rfl)) (fun _ h9 => h9) rfl dX6_maskOf_69 ?_
          refine lv_iconst (v := 0) hx hb dX6_maskOf_72 (by decide) ?_
          refine w_iald hx hb hK hP 1 (by decide) rfl (vp_in_nI (n := 0) (by decide) (by decide)) dX6_maskOf_73 ?_
          rw [mdE_0]
          refine lv_irem hx hb dX6_maskOf_74 (nI_ne0 (by omega) (by omega)) ?_
          rw [show (nI (((x * 171) + 11) % 30269)) - (nI (((x * 171) + 11) % 30269)) / (nI nb) * (nI nb) = nI ((((x * 171) + 11) % 30269) % nb) from pk_rem (a := (((x * 171) + 11) % 30269)) (d := nb) (by omega) (by omega) (by omega)]
          refine lv_istore (lv' := [(6, .int (nI ((((x * 171) + 11) % 30269) % nb))), (2, .int (nI (((x * 171) + 11) % 30269))), (5, .int (nI i)), (4, .int (nI m9)), (3, .int (nI (mnN nb ((k0 * 7919 + 17) % 30269 % 16)))), (0, .ref ((g 0))), (1, .int (nI k0))]) hx hb dX6_maskOf_75 hl (by decide) rfl (fun ls hl => ?_)
          have hb0 : ((x * 171 + 11) % 30269) % nb < nb := Nat.mod_lt _ (by omega)
          have hex : ∃ t, t < nb ∧ m9.testBit ((((x * 171 + 11) % 30269) % nb + t) % nb) = false := ff_ex hb0 hnb (by omega)
          have hm31 : m9 < 4096 := Nat.lt_of_lt_of_le hm (pow_nb hnb)
          have L77 : ∀ (k2 : Nat) (b : Nat) (H : Heap) (locs : List Loc) (ls : Array Slot), b < nb → (∃ t, t < k2 ∧ m9.testBit ((b + t) % nb) = false) → ffN nb m9 k2 b = ffN nb m9 nb (((x * 171 + 11) % 30269) % nb) → wP E 6 g (moF E g th (mdE nb va se rv) aa sv sm tx ln ro ai wr dg) H → va_S wN s.heap H locs → lv_has ls 7 [(6, .int (nI b)), (5, .int (nI i)), (2, .int (nI ((x * 171 + 11) % 30269))), (4, .int (nI m9)), (3, .int (nI (mnN nb ((k0 * 7919 + 17) % 30269 % 16)))), (0, .ref ((g 0))), (1, .int (nI k0))] → W p l e (headSpec wsX6_maskOf ({ frames := 1, cells := 0, slots := 0, locals := 20 })).room s m ([.ref ((g 0)), .int (nI k0)] : List Value).toArray below meth c H locs 0 0 (MQ below (va_Qi (fun (r : Int32) (_ : Unit) => r = nI (mskM nb k0)) (fun _ t => True) wN) ([.ref ((g 0)), .int (nI k0)] : List Value).toArray s 0 0 wN) (F0 m 77 ls []) := by
            intro k2
            induction k2 with
            | zero =>
              intro b H locs ls hb2 hex hff hP hS hl
              refine lv_iload hx hb dX6_maskOf_77 (lv_at hl 3 rfl) ?_
              refine lv_iload hx hb dX6_maskOf_79 (lv_at hl 0 rfl) ?_
              refine lv_ishr hx hb dX6_maskOf_81 ?_
              refine lv_iconst (v := 1) hx hb dX6_maskOf_82 (by decide) ?_
              refine lv_iand hx hb dX6_maskOf_83 ?_
              rw [show ((nI m9) >>> ((nI b) &&& 31)) &&& 1 = nI (bN m9 b) from bN_I (m := m9) (b := b) (by omega) (by omega)]
              refine lv_iconst (v := 1) hx hb dX6_maskOf_84 (by decide) ?_
              refine lv_icmp_ne (tgt := 104) hx hb dX6_maskOf_85 (by decide) (fun c_5 => ?_) (fun c_5 => ?_)
              · exact absurd hex (fun ⟨t, ht, _⟩ => absurd ht (Nat.not_lt_zero t))
              · exact absurd hex (fun ⟨t, ht, _⟩ => absurd ht (Nat.not_lt_zero t))
            | succ k2 ihk2 =>
              intro b H locs ls hb2 hex hff hP hS hl
              refine lv_iload hx hb dX6_maskOf_77 (lv_at hl 3 rfl) ?_
              refine lv_iload hx hb dX6_maskOf_79 (lv_at hl 0 rfl) ?_
              refine lv_ishr hx hb dX6_maskOf_81 ?_
              refine lv_iconst (v := 1) hx hb dX6_maskOf_82 (by decide) ?_
              refine lv_iand hx hb dX6_maskOf_83 ?_
              rw [show ((nI m9) >>> ((nI b) &&& 31)) &&& 1 = nI (bN m9 b) from bN_I (m := m9) (b := b) (by omega) (by omega)]
              refine lv_iconst (v := 1) hx hb dX6_maskOf_84 (by decide) ?_
              refine lv_icmp_ne (tgt := 104) hx hb dX6_maskOf_85 (by decide) (fun c_6 => ?_) (fun c_6 => ?_)
              · have hfr := bN_n c_6
                rw [ffN_n hfr] at hff
                refine lv_iload hx hb dX6_maskOf_104 (lv_at hl 3 rfl) ?_
                refine lv_iconst (v := 1) hx hb dX6_maskOf_106 (by decide) ?_
                refine lv_iload hx hb dX6_maskOf_107 (lv_at hl 0 rfl) ?_
                refine lv_ishl hx hb dX6_maskOf_109 ?_
                rw [show (1 : Int32) <<< ((nI b) &&& 31) = nI (2 ^ b) from shl1 (b := b) (by omega)]
                refine lv_ior hx hb dX6_maskOf_110 ?_
                rw [show (nI m9) ||| (nI (2 ^ b)) = nI (m9 ||| (2 ^ b)) from nI_or m9 (2 ^ b)]
                refine lv_istore (lv' := [(4, .int (nI (m9 ||| (2 ^ b)))), (6, .int (nI b)), (5, .int (nI i)), (2, .int (nI ((x * 171 + 11) % 30269))), (3, .int (nI (mnN nb ((k0 * 7919 + 17) % 30269 % 16)))), (0, .ref ((g 0))), (1, .int (nI k0))]) hx hb dX6_maskOf_111 hl (by decide) rfl (fun ls hl => ?_)
                refine lv_iinc (v := (nI (i + 1))) (lv' := [(5, .int (nI (i + 1))), (4, .int (nI (m9 ||| (2 ^ b)))), (6, .int (nI b)), (2, .int (nI ((x * 171 + 11) % 30269))), (3, .int (nI (mnN nb ((k0 * 7919 + 17) % 30269 % 16)))), (0, .ref ((g 0))), (1, .int (nI k0))]) hx hb dX6_maskOf_113 hl (k := 2) rfl (nI_1 _) (by decide) rfl (fun ls hl => ?_)
                refine lv_goto (tgt := 48) hx hb dX6_maskOf_116 (by decide) ?_
                exact ihk (i + 1) ((x * 171 + 11) % 30269) (m9 ||| (2 ^ b)) _ _ ls (by omega) (by omega) (by rw [pc_or (by omega) hfr, hpc]) (or_pow_lt hm hb2) (by rw [← hres, mkS, hff]) hP hS (lv_sub hl [0, 3, 1, 4, 5, 6] rfl)
              · refine lv_iload hx hb dX6_maskOf_88 (lv_at hl 0 rfl) ?_
                refine lv_iconst (v := 1) hx hb dX6_maskOf_90 (by decide) ?_
                refine lv_iadd hx hb dX6_maskOf_91 ?_
                rw [show (nI b) + 1 = nI (b + 1) from nI_add b 1]
                refine lv_aload_n hx hb dX6_maskOf_92 rfl (lv_at hl 5 rfl) ?_
                refine w_get (C := RX6) (T := TX6) (N := 11) (ci := 6) (v := .ref ((g 1))) hx hb hts hin6 hown hK hP 0 (by decide) rfl rfl 1 (by decide) (hts (.fieldLink RX6 7 "MixedBlocksModel" "s" "[I") (List.mem_of_getElem? (i := 1) rfl)) (fun _ h9 => h9) rfl dX6_maskOf_93 ?_
                refine lv_iconst (v := 0) hx hb dX6_maskOf_96 (by decide) ?_
                refine w_iald hx hb hK hP 1 (by decide) rfl (vp_in_nI (n := 0) (by decide) (by decide)) dX6_maskOf_97 ?_
                rw [mdE_0]
                refine lv_irem hx hb dX6_maskOf_98 (nI_ne0 (by omega) (by omega)) ?_
                rw [show (nI (b + 1)) - (nI (b + 1)) / (nI nb) * (nI nb) = nI ((b + 1) % nb) from pk_rem (a := (b + 1)) (d := nb) (by omega) (by omega) (by omega)]
                refine lv_istore (lv' := [(6, .int (nI ((b + 1) % nb))), (5, .int (nI i)), (2, .int (nI ((x * 171 + 11) % 30269))), (4, .int (nI m9)), (3, .int (nI (mnN nb ((k0 * 7919 + 17) % 30269 % 16)))), (0, .ref ((g 0))), (1, .int (nI k0))]) hx hb dX6_maskOf_99 hl (by decide) rfl (fun ls hl => ?_)
                refine lv_goto (tgt := 77) hx hb dX6_maskOf_101 (by decide) ?_
                exact ihk2 ((b + 1) % nb) _ _ ls (Nat.mod_lt _ (by omega)) (ff_next hex hb2 (bN_y c_6)) (by rw [← hff, ffN_y (bN_y c_6)]) hP hS (lv_sub hl [0, 1, 2, 3, 4, 5, 6] rfl)
          exact L77 nb (((x * 171 + 11) % 30269) % nb) _ _ ls hb0 hex rfl hP hS (lv_sub hl [0, 2, 1, 3, 4, 5, 6] rfl)
    exact L48 (mnN nb ((k0 * 7919 + 17) % 30269 % 16)) 0 ((k0 * 7919 + 17) % 30269) 0 _ _ ls (Nat.zero_add _) (by omega) rfl (Nat.two_pow_pos nb) rfl hP hS (lv_sub hl [0, 3, 1, 2, 4, 5] rfl)
  · have n_2 : ¬ ((degN ((((k0 * 7919) + 17) % 30269) % 16)) ≤ nb) := fun z => c_2 ((nI_leI (a := (degN ((((k0 * 7919) + 17) % 30269) % 16))) (b := nb) (by omega) (by omega)).mpr z)
    refine lv_aload_n hx hb dX6_maskOf_31 rfl (lv_at hl 2 rfl) ?_
    refine w_get (C := RX6) (T := TX6) (N := 11) (ci := 6) (v := .ref ((g 1))) hx hb hts hin6 hown hK hP 0 (by decide) rfl rfl 1 (by decide) (hts (.fieldLink RX6 7 "MixedBlocksModel" "s" "[I") (List.mem_of_getElem? (i := 1) rfl)) (fun _ h9 => h9) rfl dX6_maskOf_32 ?_
    refine lv_iconst (v := 0) hx hb dX6_maskOf_35 (by decide) ?_
    refine w_iald hx hb hK hP 1 (by decide) rfl (vp_in_nI (n := 0) (by decide) (by decide)) dX6_maskOf_36 ?_
    rw [mdE_0]
    refine lv_goto (tgt := 41) hx hb dX6_maskOf_37 (by decide) ?_
    have hmn : mnN nb ((k0 * 7919 + 17) % 30269 % 16) = nb := if_pos (by omega)
    refine lv_topi (fun z9 ez9 => ?_)
    obtain rfl : z9 = nI (mnN nb ((k0 * 7919 + 17) % 30269 % 16)) := by rw [hmn]; exact ez9
    refine lv_istore_n (lv' := [(3, .int (nI (mnN nb ((k0 * 7919 + 17) % 30269 % 16)))), (2, .int (nI (((k0 * 7919) + 17) % 30269))), (0, .ref ((g 0))), (1, .int (nI k0))]) hx hb dX6_maskOf_41 rfl hl (by decide) rfl (fun ls hl => ?_)
    refine lv_iconst (v := 0) hx hb dX6_maskOf_42 (by decide) ?_
    refine lv_istore (lv' := [(4, .int 0), (3, .int (nI (mnN nb ((k0 * 7919 + 17) % 30269 % 16)))), (2, .int (nI (((k0 * 7919) + 17) % 30269))), (0, .ref ((g 0))), (1, .int (nI k0))]) hx hb dX6_maskOf_43 hl (by decide) rfl (fun ls hl => ?_)
    refine lv_iconst (v := 0) hx hb dX6_maskOf_45 (by decide) ?_
    refine lv_istore (lv' := [(5, .int 0), (4, .int 0), (3, .int (nI (mnN nb ((k0 * 7919 + 17) % 30269 % 16)))), (2, .int (nI (((k0 * 7919) + 17) % 30269))), (0, .ref ((g 0))), (1, .int (nI k0))]) hx hb dX6_maskOf_46 hl (by decide) rfl (fun ls hl => ?_)
    have L48 : ∀ (k : Nat) (i x m9 : Nat) (H : Heap) (locs : List Loc) (ls : Array Slot), i + k = (mnN nb ((k0 * 7919 + 17) % 30269 % 16)) → x < 30269 → pc m9 = i → m9 < 2 ^ nb → mkS nb k x m9 = mskM nb k0 → wP E 6 g (moF E g th (mdE nb va se rv) aa sv sm tx ln ro ai wr dg) H → va_S wN s.heap H locs → lv_has ls 7 [(5, .int (nI i)), (2, .int (nI x)), (4, .int (nI m9)), (3, .int (nI (mnN nb ((k0 * 7919 + 17) % 30269 % 16)))), (0, .ref ((g 0))), (1, .int (nI k0))] → W p l e (headSpec wsX6_maskOf ({ frames := 1, cells := 0, slots := 0, locals := 20 })).room s m ([.ref ((g 0)), .int (nI k0)] : List Value).toArray below meth c H locs 0 0 (MQ below (va_Qi (fun (r : Int32) (_ : Unit) => r = nI (mskM nb k0)) (fun _ t => True) wN) ([.ref ((g 0)), .int (nI k0)] : List Value).toArray s 0 0 wN) (F0 m 48 ls []) := by
      intro k
      induction k with
      | zero =>
        intro i x m9 H locs ls hi hx9 hpc hm hres hP hS hl
        refine lv_iload hx hb dX6_maskOf_48 (lv_at hl 0 rfl) ?_
        refine lv_iload_n hx hb dX6_maskOf_50 rfl (lv_at hl 3 rfl) ?_
        refine lv_icmp_ge (tgt := 119) hx hb dX6_maskOf_51 (by decide) (fun c_7 => ?_) (fun c_7 => ?_)
        · have n_7 : (mnN nb ((k0 * 7919 + 17) % 30269 % 16)) ≤ i := (nI_leI (a := (mnN nb ((k0 * 7919 + 17) % 30269 % 16))) (b := i) (by omega) (by omega)).mp c_7
          refine lv_iload hx hb dX6_maskOf_119 (lv_at hl 2 rfl) ?_
          exact W.iret (v := (nI m9)) hx hb hr (fun t ht hW => ⟨⟨_, (), rfl, (by show nI m9 = nI _; rw [← hres]; rfl), trivial⟩, hS.F ht⟩) hS.2.2 dX6_maskOf_121
        · have n_7 : ¬ ((mnN nb ((k0 * 7919 + 17) % 30269 % 16)) ≤ i) := fun z => c_7 ((nI_leI (a := (mnN nb ((k0 * 7919 + 17) % 30269 % 16))) (b := i) (by omega) (by omega)).mpr z)
          exfalso
          omega
      | succ k ihk =>
        intro i x m9 H locs ls hi hx9 hpc hm hres hP hS hl
        refine lv_iload hx hb dX6_maskOf_48 (lv_at hl 0 rfl) ?_
        refine lv_iload_n hx hb dX6_maskOf_50 rfl (lv_at hl 3 rfl) ?_
        refine lv_icmp_ge (tgt := 119) hx hb dX6_maskOf_51 (by decide) (fun c_8 => ?_) (fun c_8 => ?_)
        · have n_8 : (mnN nb ((k0 * 7919 + 17) % 30269 % 16)) ≤ i := (nI_leI (a := (mnN nb ((k0 * 7919 + 17) % 30269 % 16))) (b := i) (by omega) (by omega)).mp c_8
          exfalso
          omega
        · have n_8 : ¬ ((mnN nb ((k0 * 7919 + 17) % 30269 % 16)) ≤ i) := fun z => c_8 ((nI_leI (a := (mnN nb ((k0 * 7919 + 17) % 30269 % 16))) (b := i) (by omega) (by omega)).mpr z)
          refine lv_iload_n hx hb dX6_maskOf_54 rfl (lv_at hl 1 rfl) ?_
          refine lv_sipush (v := 171) hx hb dX6_maskOf_55 (by decide) ?_
          refine lv_imul hx hb dX6_maskOf_58 ?_
          rw [show (nI x) * 171 = nI (x * 171) from pk_mul x 171]
          refine lv_bipush (v := 11) hx hb dX6_maskOf_59 (by decide) ?_
          refine lv_iadd hx hb dX6_maskOf_61 ?_
          rw [show (nI (x * 171)) + 11 = nI ((x * 171) + 11) from nI_add (x * 171) 11]
          refine lv_sipush (v := 30269) hx hb dX6_maskOf_62 (by decide) ?_
          refine lv_irem hx hb dX6_maskOf_65 (by decide) ?_
          rw [show (nI ((x * 171) + 11)) - (nI ((x * 171) + 11)) / 30269 * 30269 = nI (((x * 171) + 11) % 30269) from pk_rem (a := ((x * 171) + 11)) (d := 30269) (by omega) (by omega) (by omega)]
          refine lv_istore_n (lv' := [(2, .int (nI (((x * 171) + 11) % 30269))), (5, .int (nI i)), (4, .int (nI m9)), (3, .int (nI (mnN nb ((k0 * 7919 + 17) % 30269 % 16)))), (0, .ref ((g 0))), (1, .int (nI k0))]) hx hb dX6_maskOf_66 rfl hl (by decide) rfl (fun ls hl => ?_)
          refine lv_iload_n hx hb dX6_maskOf_67 rfl (lv_at hl 0 rfl) ?_
          refine lv_aload_n hx hb dX6_maskOf_68 rfl (lv_at hl 4 rfl) ?_
          refine w_get (C := RX6) (T := TX6) (N := 11) (ci := 6) (v := .ref ((g 1))) hx hb hts hin6 hown hK hP 0 (by decide) rfl rfl 1 (by decide) (hts (.fieldLink RX6 7 "MixedBlocksModel" "s" "[I") (List.mem_of_getElem? (i := 1) rfl)) (fun _ h9 => h9) rfl dX6_maskOf_69 ?_
          refine lv_iconst (v := 0) hx hb dX6_maskOf_72 (by decide) ?_
          refine w_iald hx hb hK hP 1 (by decide) rfl (vp_in_nI (n := 0) (by decide) (by decide)) dX6_maskOf_73 ?_
          rw [mdE_0]
          refine lv_irem hx hb dX6_maskOf_74 (nI_ne0 (by omega) (by omega)) ?_
          rw [show (nI (((x * 171) + 11) % 30269)) - (nI (((x * 171) + 11) % 30269)) / (nI nb) * (nI nb) = nI ((((x * 171) + 11) % 30269) % nb) from pk_rem (a := (((x * 171) + 11) % 30269)) (d := nb) (by omega) (by omega) (by omega)]
          refine lv_istore (lv' := [(6, .int (nI ((((x * 171) + 11) % 30269) % nb))), (2, .int (nI (((x * 171) + 11) % 30269))), (5, .int (nI i)), (4, .int (nI m9)), (3, .int (nI (mnN nb ((k0 * 7919 + 17) % 30269 % 16)))), (0, .ref ((g 0))), (1, .int (nI k0))]) hx hb dX6_maskOf_75 hl (by decide) rfl (fun ls hl => ?_)
          have hb0 : ((x * 171 + 11) % 30269) % nb < nb := Nat.mod_lt _ (by omega)
          have hex : ∃ t, t < nb ∧ m9.testBit ((((x * 171 + 11) % 30269) % nb + t) % nb) = false := ff_ex hb0 hnb (by omega)
          have hm31 : m9 < 4096 := Nat.lt_of_lt_of_le hm (pow_nb hnb)
          have L77 : ∀ (k2 : Nat) (b : Nat) (H : Heap) (locs : List Loc) (ls : Array Slot), b < nb → (∃ t, t < k2 ∧ m9.testBit ((b + t) % nb) = false) → ffN nb m9 k2 b = ffN nb m9 nb (((x * 171 + 11) % 30269) % nb) → wP E 6 g (moF E g th (mdE nb va se rv) aa sv sm tx ln ro ai wr dg) H → va_S wN s.heap H locs → lv_has ls 7 [(6, .int (nI b)), (5, .int (nI i)), (2, .int (nI ((x * 171 + 11) % 30269))), (4, .int (nI m9)), (3, .int (nI (mnN nb ((k0 * 7919 + 17) % 30269 % 16)))), (0, .ref ((g 0))), (1, .int (nI k0))] → W p l e (headSpec wsX6_maskOf ({ frames := 1, cells := 0, slots := 0, locals := 20 })).room s m ([.ref ((g 0)), .int (nI k0)] : List Value).toArray below meth c H locs 0 0 (MQ below (va_Qi (fun (r : Int32) (_ : Unit) => r = nI (mskM nb k0)) (fun _ t => True) wN) ([.ref ((g 0)), .int (nI k0)] : List Value).toArray s 0 0 wN) (F0 m 77 ls []) := by
            intro k2
            induction k2 with
            | zero =>
              intro b H locs ls hb2 hex hff hP hS hl
              refine lv_iload hx hb dX6_maskOf_77 (lv_at hl 3 rfl) ?_
              refine lv_iload hx hb dX6_maskOf_79 (lv_at hl 0 rfl) ?_
              refine lv_ishr hx hb dX6_maskOf_81 ?_
              refine lv_iconst (v := 1) hx hb dX6_maskOf_82 (by decide) ?_
              refine lv_iand hx hb dX6_maskOf_83 ?_
              rw [show ((nI m9) >>> ((nI b) &&& 31)) &&& 1 = nI (bN m9 b) from bN_I (m := m9) (b := b) (by omega) (by omega)]
              refine lv_iconst (v := 1) hx hb dX6_maskOf_84 (by decide) ?_
              refine lv_icmp_ne (tgt := 104) hx hb dX6_maskOf_85 (by decide) (fun c_9 => ?_) (fun c_9 => ?_)
              · exact absurd hex (fun ⟨t, ht, _⟩ => absurd ht (Nat.not_lt_zero t))
              · exact absurd hex (fun ⟨t, ht, _⟩ => absurd ht (Nat.not_lt_zero t))
            | succ k2 ihk2 =>
              intro b H locs ls hb2 hex hff hP hS hl
              refine lv_iload hx hb dX6_maskOf_77 (lv_at hl 3 rfl) ?_
              refine lv_iload hx hb dX6_maskOf_79 (lv_at hl 0 rfl) ?_
              refine lv_ishr hx hb dX6_maskOf_81 ?_
              refine lv_iconst (v := 1) hx hb dX6_maskOf_82 (by decide) ?_
              refine lv_iand hx hb dX6_maskOf_83 ?_
              rw [show ((nI m9) >>> ((nI b) &&& 31)) &&& 1 = nI (bN m9 b) from bN_I (m := m9) (b := b) (by omega) (by omega)]
              refine lv_iconst (v := 1) hx hb dX6_maskOf_84 (by decide) ?_
              refine lv_icmp_ne (tgt := 104) hx hb dX6_maskOf_85 (by decide) (fun c_10 => ?_) (fun c_10 => ?_)
              · have hfr := bN_n c_10
                rw [ffN_n hfr] at hff
                refine lv_iload hx hb dX6_maskOf_104 (lv_at hl 3 rfl) ?_
                refine lv_iconst (v := 1) hx hb dX6_maskOf_106 (by decide) ?_
                refine lv_iload hx hb dX6_maskOf_107 (lv_at hl 0 rfl) ?_
                refine lv_ishl hx hb dX6_maskOf_109 ?_
                rw [show (1 : Int32) <<< ((nI b) &&& 31) = nI (2 ^ b) from shl1 (b := b) (by omega)]
                refine lv_ior hx hb dX6_maskOf_110 ?_
                rw [show (nI m9) ||| (nI (2 ^ b)) = nI (m9 ||| (2 ^ b)) from nI_or m9 (2 ^ b)]
                refine lv_istore (lv' := [(4, .int (nI (m9 ||| (2 ^ b)))), (6, .int (nI b)), (5, .int (nI i)), (2, .int (nI ((x * 171 + 11) % 30269))), (3, .int (nI (mnN nb ((k0 * 7919 + 17) % 30269 % 16)))), (0, .ref ((g 0))), (1, .int (nI k0))]) hx hb dX6_maskOf_111 hl (by decide) rfl (fun ls hl => ?_)
                refine lv_iinc (v := (nI (i + 1))) (lv' := [(5, .int (nI (i + 1))), (4, .int (nI (m9 ||| (2 ^ b)))), (6, .int (nI b)), (2, .int (nI ((x * 171 + 11) % 30269))), (3, .int (nI (mnN nb ((k0 * 7919 + 17) % 30269 % 16)))), (0, .ref ((g 0))), (1, .int (nI k0))]) hx hb dX6_maskOf_113 hl (k := 2) rfl (nI_1 _) (by decide) rfl (fun ls hl => ?_)
                refine lv_goto (tgt := 48) hx hb dX6_maskOf_116 (by decide) ?_
                exact ihk (i + 1) ((x * 171 + 11) % 30269) (m9 ||| (2 ^ b)) _ _ ls (by omega) (by omega) (by rw [pc_or (by omega) hfr, hpc]) (or_pow_lt hm hb2) (by rw [← hres, mkS, hff]) hP hS (lv_sub hl [0, 3, 1, 4, 5, 6] rfl)
              · refine lv_iload hx hb dX6_maskOf_88 (lv_at hl 0 rfl) ?_
                refine lv_iconst (v := 1) hx hb dX6_maskOf_90 (by decide) ?_
                refine lv_iadd hx hb dX6_maskOf_91 ?_
                rw [show (nI b) + 1 = nI (b + 1) from nI_add b 1]
                refine lv_aload_n hx hb dX6_maskOf_92 rfl (lv_at hl 5 rfl) ?_
                refine w_get (C := RX6) (T := TX6) (N := 11) (ci := 6) (v := .ref ((g 1))) hx hb hts hin6 hown hK hP 0 (by decide) rfl rfl 1 (by decide) (hts (.fieldLink RX6 7 "MixedBlocksModel" "s" "[I") (List.mem_of_getElem? (i := 1) rfl)) (fun _ h9 => h9) rfl dX6_maskOf_93 ?_
                refine lv_iconst (v := 0) hx hb dX6_maskOf_96 (by decide) ?_
                refine w_iald hx hb hK hP 1 (by decide) rfl (vp_in_nI (n := 0) (by decide) (by decide)) dX6_maskOf_97 ?_
                rw [mdE_0]
                refine lv_irem hx hb dX6_maskOf_98 (nI_ne0 (by omega) (by omega)) ?_
                rw [show (nI (b + 1)) - (nI (b + 1)) / (nI nb) * (nI nb) = nI ((b + 1) % nb) from pk_rem (a := (b + 1)) (d := nb) (by omega) (by omega) (by omega)]
                refine lv_istore (lv' := [(6, .int (nI ((b + 1) % nb))), (5, .int (nI i)), (2, .int (nI ((x * 171 + 11) % 30269))), (4, .int (nI m9)), (3, .int (nI (mnN nb ((k0 * 7919 + 17) % 30269 % 16)))), (0, .ref ((g 0))), (1, .int (nI k0))]) hx hb dX6_maskOf_99 hl (by decide) rfl (fun ls hl => ?_)
                refine lv_goto (tgt := 77) hx hb dX6_maskOf_101 (by decide) ?_
                exact ihk2 ((b + 1) % nb) _ _ ls (Nat.mod_lt _ (by omega)) (ff_next hex hb2 (bN_y c_10)) (by rw [← hff, ffN_y (bN_y c_10)]) hP hS (lv_sub hl [0, 1, 2, 3, 4, 5, 6] rfl)
          exact L77 nb (((x * 171 + 11) % 30269) % nb) _ _ ls hb0 hex rfl hP hS (lv_sub hl [0, 2, 1, 3, 4, 5, 6] rfl)
    exact L48 (mnN nb ((k0 * 7919 + 17) % 30269 % 16)) 0 ((k0 * 7919 + 17) % 30269) 0 _ _ ls (Nat.zero_add _) (by omega) rfl (Nat.two_pow_pos nb) rfl hP hS (lv_sub hl [0, 3, 1, 2, 4, 5] rfl)
set_option maxHeartbeats 4000000 in
set_option maxRecDepth 100000 in
theorem c_X6_valueOf (l : Launch) (E : wE) (g : Nat → Nat) (th : Int32) (aa sv : Nat → Int32) (sm : Nat) (tx : Nat → Int32) (ln : Nat) (ro : Nat → Int32) (ai : Nat) (wr : Bool) (dg : Int64) (nb : Nat) (va : Nat → Int32) (se : Int32) (rv : Nat → Nat → Int32) (mk : Nat) (hm : mk < 4096) (hnb : nb ≤ 12) : Met l yX6_valueOf wsX6_valueOf ({ frames := 0, cells := 0, slots := 0, locals := 0 }) (va_Pc [.ref ((g 0)), .int (nI mk)] (wS E 6 g (wP E 6 g (moF E g th (mdE nb va se rv) aa sv sm tx ln ro ai wr dg)))) (va_Qi (fun (r : Int32) (_ : Unit) => r = vlM nb va mk) (fun _ t => True) wN) 0 0 wN := by
  refine Met.ofW (cc := cX6_valueOf) (maxL := 4) (ret := (some .int)) (by decide) rfl ?_
  intro p e s m args below meth c s₁ B hml hv
  obtain ⟨rfl, hP, hK, hI⟩ := hv
  have hx := B.exec
  have hb := B.bytes
  have hr := B.returns
  have hts := atoms_spec (ws := wsX6_valueOf) B.pre
  have hown : s.vm.findClass RX6 = some m.cls := findClass_of_methodNamed B.named
  have hlocks := B.notSynchronized
  have hS : va_S wN s.heap s.heap [] := va_S.rf
  have hin6 : ∀ w ∈ wsX60, w ∈ wsX6_valueOf := by decide +kernel
  have hl := lv_entry ([.ref ((g 0)), .int (nI mk)]) (n := 4) (Nat.le_of_ble_eq_true rfl)
  rw [lg_entry_eq]
  generalize (lg_sl ([.ref ((g 0)), .int (nI mk)]) ++ List.replicate (4 - (lg_sl ([.ref ((g 0)), .int (nI mk)])).length) Slot.unset).toArray = ls at hl ⊢
  have hl : lv_has ls 4 [(0, .ref ((g 0))), (1, .int (nI mk))] := hl
  refine lv_iconst (v := 0) hx hb dX6_valueOf_0 (by decide) ?_
  refine lv_istore_n (lv' := [(2, .int 0), (0, .ref ((g 0))), (1, .int (nI mk))]) hx hb dX6_valueOf_1 rfl hl (by decide) rfl (fun ls hl => ?_)
  refine lv_iconst (v := 0) hx hb dX6_valueOf_2 (by decide) ?_
  refine lv_istore_n (lv' := [(3, .int 0), (2, .int 0), (0, .ref ((g 0))), (1, .int (nI mk))]) hx hb dX6_valueOf_3 rfl hl (by decide) rfl (fun ls hl => ?_)
  have L4 : ∀ (k : Nat) (i : Nat) (v : Int32) (H : Heap) (locs : List Loc) (ls : Array Slot), i + k = nb → itr (fun b v => v ^^^ (if mk.testBit b = true then va b else 0)) k i v = vlM nb va mk → wP E 6 g (moF E g th (mdE nb va se rv) aa sv sm tx ln ro ai wr dg) H → va_S wN s.heap H locs → lv_has ls 4 [(3, .int (nI i)), (2, .int v), (0, .ref ((g 0))), (1, .int (nI mk))] → W p l e (headSpec wsX6_valueOf ({ frames := 0, cells := 0, slots := 0, locals := 0 })).room s m ([.ref ((g 0)), .int (nI mk)] : List Value).toArray below meth c H locs 0 0 (MQ below (va_Qi (fun (r : Int32) (_ : Unit) => r = vlM nb va mk) (fun _ t => True) wN) ([.ref ((g 0)), .int (nI mk)] : List Value).toArray s 0 0 wN) (F0 m 4 ls []) := by
    intro k
    induction k with
    | zero =>
      intro i v H locs ls hi hres hP hS hl
      refine lv_iload_n hx hb dX6_valueOf_4 rfl (lv_at hl 0 rfl) ?_
      refine lv_aload_n hx hb dX6_valueOf_5 rfl (lv_at hl 2 rfl) ?_
      refine w_get (C := RX6) (T := TX6) (N := 11) (ci := 6) (v := .ref ((g 1))) hx hb hts hin6 hown hK hP 0 (by decide) rfl rfl 1 (by decide) (hts (.fieldLink RX6 7 "MixedBlocksModel" "s" "[I") (List.mem_of_getElem? (i := 1) rfl)) (fun _ h9 => h9) rfl dX6_valueOf_6 ?_
      refine lv_iconst (v := 0) hx hb dX6_valueOf_9 (by decide) ?_
      refine w_iald hx hb hK hP 1 (by decide) rfl (vp_in_nI (n := 0) (by decide) (by decide)) dX6_valueOf_10 ?_
      rw [mdE_0]
      refine lv_icmp_ge (tgt := 44) hx hb dX6_valueOf_11 (by decide) (fun c_1 => ?_) (fun c_1 => ?_)
      · have n_1 : nb ≤ i := (nI_leI (a := nb) (b := i) (by omega) (by omega)).mp c_1
        refine lv_iload_n hx hb dX6_valueOf_44 rfl (lv_at hl 1 rfl) ?_
        exact W.iret (v := v) hx hb hr (fun t ht hW => ⟨⟨_, (), rfl, hres, trivial⟩, hS.F ht⟩) hS.2.2 dX6_valueOf_45
      · have n_1 : ¬ (nb ≤ i) := fun z => c_1 ((nI_leI (a := nb) (b := i) (by omega) (by omega)).mpr z)
        exfalso
        omega
    | succ k ihk =>
      intro i v H locs ls hi hres hP hS hl
      refine lv_iload_n hx hb dX6_valueOf_4 rfl (lv_at hl 0 rfl) ?_
      refine lv_aload_n hx hb dX6_valueOf_5 rfl (lv_at hl 2 rfl) ?_
      refine w_get (C := RX6) (T := TX6) (N := 11) (ci := 6) (v := .ref ((g 1))) hx hb hts hin6 hown hK hP 0 (by decide) rfl rfl 1 (by decide) (hts (.fieldLink RX6 7 "MixedBlocksModel" "s" "[I") (List.mem_of_getElem? (i := 1) rfl)) (fun _ h9 => h9) rfl dX6_valueOf_6 ?_
      refine lv_iconst (v := 0) hx hb dX6_valueOf_9 (by decide) ?_
      refine w_iald hx hb hK hP 1 (by decide) rfl (vp_in_nI (n := 0) (by decide) (by decide)) dX6_valueOf_10 ?_
      rw [mdE_0]
      refine lv_icmp_ge (tgt := 44) hx hb dX6_valueOf_11 (by decide) (fun c_2 => ?_) (fun c_2 => ?_)
      · have n_2 : nb ≤ i := (nI_leI (a := nb) (b := i) (by omega) (by omega)).mp c_2
        exfalso
        omega
      · have n_2 : ¬ (nb ≤ i) := fun z => c_2 ((nI_leI (a := nb) (b := i) (by omega) (by omega)).mpr z)
        refine lv_iload_n hx hb dX6_valueOf_14 rfl (lv_at hl 1 rfl) ?_
        refine lv_iload_n hx hb dX6_valueOf_15 rfl (lv_at hl 3 rfl) ?_
        refine lv_iload_n hx hb dX6_valueOf_16 rfl (lv_at hl 0 rfl) ?_
        refine lv_ishr hx hb dX6_valueOf_17 ?_
        refine lv_iconst (v := 1) hx hb dX6_valueOf_18 (by decide) ?_
        refine lv_iand hx hb dX6_valueOf_19 ?_
        rw [show ((nI mk) >>> ((nI i) &&& 31)) &&& 1 = nI (bN mk i) from bN_I (m := mk) (b := i) (by omega) (by omega)]
        refine lv_iconst (v := 1) hx hb dX6_valueOf_20 (by decide) ?_
        refine lv_icmp_ne (tgt := 35) hx hb dX6_valueOf_21 (by decide) (fun c_3 => ?_) (fun c_3 => ?_)
        · refine lv_iconst (v := 0) hx hb dX6_valueOf_35 (by decide) ?_
          refine lv_ixor hx hb dX6_valueOf_36 ?_
          refine lv_istore_n (lv' := [(2, .int ((v ^^^ 0))), (3, .int (nI i)), (0, .ref ((g 0))), (1, .int (nI mk))]) hx hb dX6_valueOf_37 rfl hl (by decide) rfl (fun ls hl => ?_)
          refine lv_iinc (v := (nI (i + 1))) (lv' := [(3, .int (nI (i + 1))), (2, .int ((v ^^^ 0))), (0, .ref ((g 0))), (1, .int (nI mk))]) hx hb dX6_valueOf_38 hl (k := 1) rfl (nI_1 _) (by decide) rfl (fun ls hl => ?_)
          refine lv_goto (tgt := 4) hx hb dX6_valueOf_41 (by decide) ?_
          have hres2 : itr (fun b v => v ^^^ (if mk.testBit b = true then va b else 0)) k (i + 1) (v ^^^ 0) = vlM nb va mk := by rw [← hres, itr_s, (bN_n c_3)]; rfl
          exact ihk (i + 1) (v ^^^ 0) _ _ ls (by omega) hres2 hP hS (lv_sub hl [0, 1, 2, 3] rfl)
        · refine lv_aload_n hx hb dX6_valueOf_24 rfl (lv_at hl 2 rfl) ?_
          refine w_get (C := RX6) (T := TX6) (N := 11) (ci := 6) (v := .ref ((g 1))) hx hb hts hin6 hown hK hP 0 (by decide) rfl rfl 1 (by decide) (hts (.fieldLink RX6 7 "MixedBlocksModel" "s" "[I") (List.mem_of_getElem? (i := 1) rfl)) (fun _ h9 => h9) rfl dX6_valueOf_25 ?_
          refine lv_iconst (v := 2) hx hb dX6_valueOf_28 (by decide) ?_
          refine lv_iload_n hx hb dX6_valueOf_29 rfl (lv_at hl 0 rfl) ?_
          refine lv_iadd hx hb dX6_valueOf_30 ?_
          rw [show 2 + (nI i) = nI (2 + i) from nI_add 2 i]
          refine w_iald hx hb hK hP 1 (by decide) rfl (vp_in_nI (by omega) (by decide)) dX6_valueOf_31 ?_
          rw [nI_clamp (by omega), mdE_v (by omega)]
          refine lv_goto (tgt := 36) hx hb dX6_valueOf_32 (by decide) ?_
          refine lv_ixor hx hb dX6_valueOf_36 ?_
          refine lv_istore_n (lv' := [(2, .int ((v ^^^ (va i)))), (3, .int (nI i)), (0, .ref ((g 0))), (1, .int (nI mk))]) hx hb dX6_valueOf_37 rfl hl (by decide) rfl (fun ls hl => ?_)
          refine lv_iinc (v := (nI (i + 1))) (lv' := [(3, .int (nI (i + 1))), (2, .int ((v ^^^ (va i)))), (0, .ref ((g 0))), (1, .int (nI mk))]) hx hb dX6_valueOf_38 hl (k := 1) rfl (nI_1 _) (by decide) rfl (fun ls hl => ?_)
          refine lv_goto (tgt := 4) hx hb dX6_valueOf_41 (by decide) ?_
          have hres2 : itr (fun b v => v ^^^ (if mk.testBit b = true then va b else 0)) k (i + 1) (v ^^^ (va i)) = vlM nb va mk := by rw [← hres, itr_s, (bN_y c_3)]; rfl
          exact ihk (i + 1) (v ^^^ (va i)) _ _ ls (by omega) hres2 hP hS (lv_sub hl [0, 1, 2, 3] rfl)
  exact L4 nb 0 0 _ _ ls (Nat.zero_add _) rfl hP hS (lv_sub hl [0, 1, 2, 3] rfl)
set_option maxHeartbeats 4000000 in
set_option maxRecDepth 100000 in
theorem c_X6_all (l : Launch) (E : wE) (g : Nat → Nat) (th : Int32) (aa sv : Nat → Int32) (sm : Nat) (tx : Nat → Int32) (ln : Nat) (ro : Nat → Int32) (ai : Nat) (wr : Bool) (dg : Int64) (nb : Nat) (va : Nat → Int32) (se : Int32) (rv : Nat → Nat → Int32) (hnb : nb ≤ 12) : Met l yX6_all wsX6_all ({ frames := 0, cells := 0, slots := 0, locals := 0 }) (va_Pc [.ref ((g 0))] (wS E 6 g (wP E 6 g (moF E g th (mdE nb va se rv) aa sv sm tx ln ro ai wr dg)))) (va_Qi (fun (r : Int32) (_ : Unit) => r = nI (2 ^ nb - 1)) (fun _ t => True) wN) 0 0 wN := by
  refine Met.ofW (cc := cX6_all) (maxL := 1) (ret := (some .int)) (by decide) rfl ?_
  intro p e s m args below meth c s₁ B hml hv
  obtain ⟨rfl, hP, hK, hI⟩ := hv
  have hx := B.exec
  have hb := B.bytes
  have hr := B.returns
  have hts := atoms_spec (ws := wsX6_all) B.pre
  have hown : s.vm.findClass RX6 = some m.cls := findClass_of_methodNamed B.named
  have hlocks := B.notSynchronized
  have hS : va_S wN s.heap s.heap [] := va_S.rf
  have hin6 : ∀ w ∈ wsX60, w ∈ wsX6_all := by decide +kernel
  have hl := lv_entry ([.ref ((g 0))]) (n := 1) (Nat.le_of_ble_eq_true rfl)
  rw [lg_entry_eq]
  generalize (lg_sl ([.ref ((g 0))]) ++ List.replicate (1 - (lg_sl ([.ref ((g 0))])).length) Slot.unset).toArray = ls at hl ⊢
  have hl : lv_has ls 1 [(0, .ref ((g 0)))] := hl
  have h2p := Nat.two_pow_pos nb
  refine lv_iconst (v := 1) hx hb dX6_all_0 (by decide) ?_
  refine lv_aload_n hx hb dX6_all_1 rfl (lv_at hl 0 rfl) ?_
  refine w_get (C := RX6) (T := TX6) (N := 11) (ci := 6) (v := .ref ((g 1))) hx hb hts hin6 hown hK hP 0 (by decide) rfl rfl 1 (by decide) (hts (.fieldLink RX6 7 "MixedBlocksModel" "s" "[I") (List.mem_of_getElem? (i := 1) rfl)) (fun _ h9 => h9) rfl dX6_all_2 ?_
  refine lv_iconst (v := 0) hx hb dX6_all_5 (by decide) ?_
  refine w_iald hx hb hK hP 1 (by decide) rfl (vp_in_nI (n := 0) (by decide) (by decide)) dX6_all_6 ?_
  rw [mdE_0]
  refine lv_ishl hx hb dX6_all_7 ?_
  rw [show (1 : Int32) <<< ((nI nb) &&& 31) = nI (2 ^ nb) from shl1 (b := nb) (by omega)]
  refine lv_iconst (v := 1) hx hb dX6_all_8 (by decide) ?_
  refine lv_isub hx hb dX6_all_9 ?_
  rw [show (nI (2 ^ nb)) - 1 = nI ((2 ^ nb) - 1) from pk_sub (a := (2 ^ nb)) (b := 1) (by omega)]
  exact W.iret (v := (nI ((2 ^ nb) - 1))) hx hb hr (fun t ht hW => ⟨⟨_, (), rfl, rfl, trivial⟩, hS.F ht⟩) hS.2.2 dX6_all_10

/-! the law: low, bits, cell, value -/
set_option maxHeartbeats 4000000 in
set_option maxRecDepth 100000 in
theorem c_L_low (l : Launch) (v : Int32) (n : Nat) (hn0 : 0 < n) (hn : n < 2 ^ 31) : Met l yL_low wsL_low ({ frames := 0, cells := 0, slots := 0, locals := 0 }) (va_Pc [.int v, .int (nI n)] (fun _ => True)) (va_Qi (fun (r : Int32) (u : Nat) => r = nI u ∧ u < n) (fun _ _ => True) wN) 0 0 wN := by
  refine Met.ofW (cc := cL_low) (maxL := 2) (ret := (some .int)) (by decide) rfl ?_
  intro p e s m args below meth c s₁ Bd hml hv
  obtain ⟨rfl, -⟩ := hv
  have hx := Bd.exec
  have hb := Bd.bytes
  have hr := Bd.returns
  have hts := atoms_spec (ws := wsL_low) Bd.pre
  have hown : s.vm.findClass RL = some m.cls := findClass_of_methodNamed Bd.named
  have hlocks := Bd.notSynchronized
  have hS : va_S wN s.heap s.heap [] := va_S.rf
  have hl := lv_entry ([.int v, .int (nI n)]) (n := 2) (Nat.le_of_ble_eq_true rfl)
  rw [lg_entry_eq]
  generalize (lg_sl ([.int v, .int (nI n)]) ++ List.replicate (2 - (lg_sl ([.int v, .int (nI n)])).length) Slot.unset).toArray = ls at hl ⊢
  have hl : lv_has ls 2 [(0, .int v), (1, .int (nI n))] := hl
  refine lv_iload_n hx hb dL_low_0 rfl (lv_at hl 0 rfl) ?_
  refine lv_ldc hx hb hown (hts (.constant RL 7 (2147483647)) (List.mem_of_getElem? (i := 1) rfl)) dL_low_1 ?_
  rw [show (2147483647 : Int32) = nI 2147483647 from rfl]
  refine lv_iand hx hb dL_low_3 ?_
  obtain ⟨a, ha, ea⟩ := and_low (v := v)
  rw [ea]
  refine lv_iload_n hx hb dL_low_4 rfl (lv_at hl 1 rfl) ?_
  refine lv_irem hx hb dL_low_5 (nI_ne0 (by omega) (by omega)) ?_
  rw [show nI a - nI a / nI n * nI n = nI (a % n) from pk_rem (by omega) (by omega) (by omega)]
  refine W.widen (k := 0) (n := 0) (Nat.le_of_ble_eq_true rfl) (Nat.le_of_ble_eq_true rfl) ?_
  exact W.iret (v := (nI (a % n))) hx hb hr (fun t ht hW => ⟨⟨_, (a % n), rfl, ⟨rfl, Nat.mod_lt _ hn0⟩, trivial⟩, hS.F ht⟩) hS.2.2 dL_low_6
set_option maxHeartbeats 4000000 in
set_option maxRecDepth 100000 in
theorem c_L_bits (l : Launch) (k : Nat) (hk : k < 4096) : Met l yL_bits wsL_bits ({ frames := 0, cells := 0, slots := 0, locals := 0 }) (va_Pc [.int (nI k)] (fun _ => True)) (va_Qi (fun (r : Int32) (_ : Unit) => r = nI (pc k)) (fun _ _ => True) wN) 0 0 wN := by
  refine Met.ofW (cc := cL_bits) (maxL := 3) (ret := (some .int)) (by decide) rfl ?_
  intro p e s m args below meth c s₁ Bd hml hv
  obtain ⟨rfl, -⟩ := hv
  have hx := Bd.exec
  have hb := Bd.bytes
  have hr := Bd.returns
  have hts := atoms_spec (ws := wsL_bits) Bd.pre
  have hown : s.vm.findClass RL = some m.cls := findClass_of_methodNamed Bd.named
  have hlocks := Bd.notSynchronized
  have hS : va_S wN s.heap s.heap [] := va_S.rf
  have hl := lv_entry ([.int (nI k)]) (n := 3) (Nat.le_of_ble_eq_true rfl)
  rw [lg_entry_eq]
  generalize (lg_sl ([.int (nI k)]) ++ List.replicate (3 - (lg_sl ([.int (nI k)])).length) Slot.unset).toArray = ls at hl ⊢
  have hl : lv_has ls 3 [(0, .int (nI k))] := hl
  refine lv_iconst (v := (nI 0)) hx hb dL_bits_0 (by decide) ?_
  refine lv_istore_n (lv' := [(1, .int (nI 0)), (0, .int (nI k))]) hx hb dL_bits_1 rfl hl (by decide) rfl (fun ls hl => ?_)
  refine lv_iconst (v := (nI 0)) hx hb dL_bits_2 (by decide) ?_
  refine lv_istore_n (lv' := [(2, .int (nI 0)), (1, .int (nI 0)), (0, .int (nI k))]) hx hb dL_bits_3 rfl hl (by decide) rfl (fun ls hl => ?_)
  have L4 : ∀ (n : Nat) (b : Nat) (H : Heap) (locs : List Loc) (ls : Array Slot) (cells slots : Nat), b + n = 12 → cells + n * 0 ≤ 0 → slots + n * 0 ≤ 0 → va_S wN s.heap H locs → lv_has ls 3 [(2, .int (nI b)), (1, .int (nI (pcN k b))), (0, .int (nI k))] → W p l e (headSpec wsL_bits ({ frames := 0, cells := 0, slots := 0, locals := 0 })).room s m ([.int (nI k)] : List Value).toArray below meth c H locs (cells) (slots) (MQ below (va_Qi (fun (r : Int32) (_ : Unit) => r = nI (pc k)) (fun _ _ => True) wN) ([.int (nI k)] : List Value).toArray s 0 0 wN) (F0 m 4 ls []) := by
    intro n
    induction n with
    | zero =>
      intro b H locs ls cells slots hbn hc9 hs9 hS hl
      have hb12 : b = 12 := by omega
      refine lv_iload_n hx hb dL_bits_4 rfl (lv_at hl 0 rfl) ?_
      refine lv_bipush (v := (nI 12)) hx hb dL_bits_5 (by decide) ?_
      refine lv_icmp_ge (tgt := 24) hx hb dL_bits_7 (by decide) (fun c_1 => ?_) (fun c_1 => ?_)
      · skip
        refine lv_iload_n hx hb dL_bits_24 rfl (lv_at hl 1 rfl) ?_
        refine W.widen (k := 0) (n := 0) (show cells ≤ 0 by omega) (show slots ≤ 0 by omega) ?_
        exact W.iret (v := (nI (pcN k b))) hx hb hr (fun t ht hW => ⟨⟨_, (), rfl, (by show _ = _; rw [hb12]; rfl), trivial⟩, hS.F ht⟩) hS.2.2 dL_bits_25
      · exfalso
        have f_c_1 : ¬ 12 ≤ b := fun z9 => c_1 ((nI_leI (a := 12) (b := b) (by omega) (by omega)).mpr z9)
        omega
    | succ n ih =>
      intro b H locs ls cells slots hbn hc9 hs9 hS hl
      refine lv_iload_n hx hb dL_bits_4 rfl (lv_at hl 0 rfl) ?_
      refine lv_bipush (v := (nI 12)) hx hb dL_bits_5 (by decide) ?_
      refine lv_icmp_ge (tgt := 24) hx hb dL_bits_7 (by decide) (fun c_2 => ?_) (fun c_2 => ?_)
      · exfalso
        have f_c_2 : 12 ≤ b := (nI_leI (a := 12) (b := b) (by omega) (by omega)).mp c_2
        omega
      · skip
        refine lv_iload_n hx hb dL_bits_10 rfl (lv_at hl 1 rfl) ?_
        refine lv_iload_n hx hb dL_bits_11 rfl (lv_at hl 2 rfl) ?_
        refine lv_iload_n hx hb dL_bits_12 rfl (lv_at hl 0 rfl) ?_
        refine lv_ishr hx hb dL_bits_13 ?_
        refine lv_iconst (v := (nI 1)) hx hb dL_bits_14 (by decide) ?_
        refine lv_iand hx hb dL_bits_15 ?_
        rw [show (((nI k) >>> ((nI b) &&& 31)) &&& (nI 1)) = (nI (bN k b)) from shr_bit (by omega) (by omega)]
        refine lv_iadd hx hb dL_bits_16 ?_
        rw [show nI (pcN k b) + nI (bN k b) = nI ((pcN k b) + (bN k b)) from nI_add _ _]
        refine lv_istore_n (lv' := [(1, .int (nI (pcN k (b + 1)))), (2, .int (nI b)), (0, .int (nI k))]) hx hb dL_bits_17 rfl hl (by decide) rfl (fun ls hl => ?_)
        refine lv_iinc (v := (nI (b + 1))) (lv' := [(2, .int (nI (b + 1))), (1, .int (nI (pcN k (b + 1)))), (0, .int (nI k))]) hx hb dL_bits_18 hl (k := 1) rfl (nI_1 _) (by decide) rfl (fun ls hl => ?_)
        refine lv_goto (tgt := 4) hx hb dL_bits_21 (by decide) ?_
        exact ih (b + 1) _ _ ls _ _ (by omega) (by omega) (by omega)  hS (lv_sub hl [0, 1, 2] rfl)
  exact L4 12 0 _ _ ls _ _ rfl (by omega) (by omega)  hS (lv_sub hl [0, 1, 2] rfl)
set_option maxHeartbeats 4000000 in
set_option maxRecDepth 100000 in
theorem c_L_cell (l : Launch) (b L k : Nat) (xs : Nat → Int32) (hL : L ≤ 260) (hk : k ≤ 100) : Met l yL_cell wsL_cell ({ frames := 0, cells := 0, slots := 0, locals := 0 }) (va_Pc [.ref b, .int (nI k)] (fun U => va_X b L xs U U.heap)) (va_Qi (fun (r : Int32) (_ : Unit) => True) (fun _ _ => True) wN) 0 0 wN := by
  refine Met.ofW (cc := cL_cell) (maxL := 2) (ret := (some .int)) (by decide) rfl ?_
  intro p e s m args below meth c s₁ Bd hml hv
  obtain ⟨rfl, hX⟩ := hv
  have hx := Bd.exec
  have hb := Bd.bytes
  have hr := Bd.returns
  have hts := atoms_spec (ws := wsL_cell) Bd.pre
  have hown : s.vm.findClass RL = some m.cls := findClass_of_methodNamed Bd.named
  have hlocks := Bd.notSynchronized
  have hS : va_S wN s.heap s.heap [] := va_S.rf
  have hl := lv_entry ([.ref b, .int (nI k)]) (n := 2) (Nat.le_of_ble_eq_true rfl)
  rw [lg_entry_eq]
  generalize (lg_sl ([.ref b, .int (nI k)]) ++ List.replicate (2 - (lg_sl ([.ref b, .int (nI k)])).length) Slot.unset).toArray = ls at hl ⊢
  have hl : lv_has ls 2 [(0, .ref b), (1, .int (nI k))] := hl
  have hbl : b < s.heap.size := by obtain ⟨scr, hcb, _⟩ := id hX; exact (Array.getElem?_eq_some_iff.mp hcb).1
  refine lv_iload_n hx hb dL_cell_0 rfl (lv_at hl 1 rfl) ?_
  refine lv_aload_n hx hb dL_cell_1 rfl (lv_at hl 0 rfl) ?_
  refine va_slen hx hb hX hbl (fun z9 => z9) hS dL_cell_2 ?_
  rw [show Int32.ofNat L = nI L from rfl]
  refine lv_icmp_ge (tgt := 12) hx hb dL_cell_3 (by decide) (fun c_1 => ?_) (fun c_1 => ?_)
  · have f_c_1 : L ≤ k := (nI_leI (a := L) (b := k) (by omega) (by omega)).mp c_1
    refine lv_sipush (v := (nI 7919)) hx hb dL_cell_12 (by decide) ?_
    refine lv_iload_n hx hb dL_cell_15 rfl (lv_at hl 1 rfl) ?_
    refine lv_iconst (v := (nI 3)) hx hb dL_cell_16 (by decide) ?_
    refine lv_iadd hx hb dL_cell_17 ?_
    rw [show nI k + nI 3 = nI (k + 3) from nI_add _ _]
    refine lv_imul hx hb dL_cell_18 ?_
    refine lv_iload_n hx hb dL_cell_19 rfl (lv_at hl 1 rfl) ?_
    refine lv_bipush (v := (nI 11)) hx hb dL_cell_20 (by decide) ?_
    refine lv_iadd hx hb dL_cell_22 ?_
    rw [show nI k + nI 11 = nI (k + 11) from nI_add _ _]
    refine lv_imul hx hb dL_cell_23 ?_
    refine W.widen (k := 0) (n := 0) (Nat.le_of_ble_eq_true rfl) (Nat.le_of_ble_eq_true rfl) ?_
    exact W.iret (v := (((nI 7919) * (nI (k + 3))) * (nI (k + 11)))) hx hb hr (fun t ht hW => ⟨⟨_, (), rfl, trivial, trivial⟩, hS.F ht⟩) hS.2.2 dL_cell_24
  · have f_c_1 : ¬ L ≤ k := fun z9 => c_1 ((nI_leI (a := L) (b := k) (by omega) (by omega)).mpr z9)
    refine lv_aload_n hx hb dL_cell_6 rfl (lv_at hl 0 rfl) ?_
    refine lv_iload_n hx hb dL_cell_7 rfl (lv_at hl 1 rfl) ?_
    refine va_sld hx hb hX hbl (fun z9 => z9) hS (vp_in_nI (by omega) (by omega)) dL_cell_8 ?_
    refine lv_goto (tgt := 24) hx hb dL_cell_9 (by decide) ?_
    refine W.widen (k := 0) (n := 0) (Nat.le_of_ble_eq_true rfl) (Nat.le_of_ble_eq_true rfl) ?_
    exact W.iret (v := (xs (nI k).toNatClampNeg)) hx hb hr (fun t ht hW => ⟨⟨_, (), rfl, trivial, trivial⟩, hS.F ht⟩) hS.2.2 dL_cell_24
set_option maxHeartbeats 4000000 in
set_option maxRecDepth 100000 in
theorem c_L_value (l : Launch) (hst : l.stackTraces = false) (E : wE) (g : Nat → Nat) (ln : Nat) (bf : Nat → Int32) (z : SS) (ke : Nat) (hs : Nat → SS) {B : Nat} {y : MS} (hz : RZ B z y) {k : Nat} (hk : k < 2 ^ y.1) : Met l yL_value wsL_value ({ frames := 8, cells := 25, slots := 150, locals := 132 }) (va_Pc [.ref ((g 0)), .int (nI k)] (wSx E 94 g (wF 94 g) (MB E g ln bf z ke hs))) (va_Qi (fun (r : Int32) (_ : Unit) => r = vlM y.1 y.2.1 k) (fun _ t => MB E g ln bf z ke hs t.heap) (wF 94 g)) 25 150 (wF 94 g) := by
  refine Met.ofW (cc := cL_value) (maxL := 4) (ret := (some .int)) (by decide) rfl ?_
  intro p e s m args below meth c s₁ Bd hml hv
  obtain ⟨rfl, hM, hK, hI, hxe⟩ := hv
  have hx := Bd.exec
  have hb := Bd.bytes
  have hr := Bd.returns
  have hts := atoms_spec (ws := wsL_value) Bd.pre
  have hown : s.vm.findClass RL = some m.cls := findClass_of_methodNamed Bd.named
  have hlocks := Bd.notSynchronized
  have hS : va_S (wF 94 g) s.heap s.heap [] := va_S.rf
  have hl := lv_entry ([.ref ((g 0)), .int (nI k)]) (n := 4) (Nat.le_of_ble_eq_true rfl)
  rw [lg_entry_eq]
  generalize (lg_sl ([.ref ((g 0)), .int (nI k)]) ++ List.replicate (4 - (lg_sl ([.ref ((g 0)), .int (nI k)])).length) Slot.unset).toArray = ls at hl ⊢
  have hl : lv_has ls 4 [(0, .ref ((g 0))), (1, .int (nI k))] := hl
  obtain ⟨hzn, hn2, hn12⟩ := rz_nb hz
  have hk4 := Nat.lt_of_lt_of_le hk (pow_nb hn12)
  refine lv_iconst (v := (nI 0)) hx hb dL_value_0 (by decide) ?_
  refine lv_istore_n (lv' := [(2, .int (nI 0)), (0, .ref ((g 0))), (1, .int (nI k))]) hx hb dL_value_1 rfl hl (by decide) rfl (fun ls hl => ?_)
  refine lv_iconst (v := (nI 0)) hx hb dL_value_2 (by decide) ?_
  refine lv_istore_n (lv' := [(3, .int (nI 0)), (2, .int (nI 0)), (0, .ref ((g 0))), (1, .int (nI k))]) hx hb dL_value_3 rfl hl (by decide) rfl (fun ls hl => ?_)
  have L4 : ∀ (n : Nat) (b : Nat) (H : Heap) (locs : List Loc) (ls : Array Slot) (cells slots : Nat), b + n = y.1 → cells + n * 2 ≤ 24 → slots + n * 12 ≤ 144 → MB E g ln bf z ke hs H → va_S (wF 94 g) s.heap H locs → lv_has ls 4 [(3, .int (nI b)), (2, .int ((vlP y.2.1 k b))), (1, .int (nI k)), (0, .ref ((g 0)))] → W p l e (headSpec wsL_value ({ frames := 8, cells := 25, slots := 150, locals := 132 })).room s m ([.ref ((g 0)), .int (nI k)] : List Value).toArray below meth c H locs (cells) (slots) (MQ below (va_Qi (fun (r : Int32) (_ : Unit) => r = vlM y.1 y.2.1 k) (fun _ t => MB E g ln bf z ke hs t.heap) (wF 94 g)) ([.ref ((g 0)), .int (nI k)] : List Value).toArray s 25 150 (wF 94 g)) (F0 m 4 ls []) := by
    intro n
    induction n with
    | zero =>
      intro b H locs ls cells slots hbn hc9 hs9 hM hS hl
      have hbn2 : b = y.1 := by omega
      refine lv_iload_n hx hb dL_value_4 rfl (lv_at hl 0 rfl) ?_
      refine lv_aload_n hx hb dL_value_5 rfl (lv_at hl 3 rfl) ?_
      refine lv_iconst (v := (nI 0)) hx hb dL_value_6 (by decide) ?_
      refine va_calli (va_runV (As := [.int (nI 0)]) (rest := [.int (nI b)]) ⟨hx, hb, hml, hown, hts⟩ (n_count0 l hst E g ln bf z ke hs hz) (cwV 1 hts gL_value_X5_count rfl rfl rfl (by decide +kernel) ⟨Nat.le_of_ble_eq_true rfl, Nat.le_of_ble_eq_true rfl⟩) ⟨wSx.blind, (w_recv hK hM.main 0 (by decide) rfl (ci := 5) rfl), fun U hU hW => wSx.go hM hK hI hxe hS (fun q h => h) hU hW⟩ rfl rfl hl.1 rfl (lv_room (Nat.le_of_ble_eq_true rfl)) dL_value_7 ⟨(show cells + 1 ≤ 25 by omega), (show slots + 6 ≤ 150 by omega)⟩) hS (fun q _ h => (fun q h => h) q h) (fun q h => h) (fun r_1 uu t H_1 locs_1 ht hvm hw hB hzq hk1 hS => ?_)
      rw [ht] at hB
      have hM := hB
      obtain rfl : r_1 = nI y.1 := hw
      refine lv_icmp_ge (tgt := 40) hx hb dL_value_10 (by decide) (fun c_2 => ?_) (fun c_2 => ?_)
      · skip
        refine lv_iload_n hx hb dL_value_40 rfl (lv_at hl 1 rfl) ?_
        refine W.widen (k := 25) (n := 150) (show cells + 1 ≤ 25 by omega) (show slots + 6 ≤ 150 by omega) ?_
        exact W.iret (v := (vlP y.2.1 k b)) hx hb hr (fun t ht hW => ⟨⟨_, (), rfl, (by show _ = _; rw [hbn2]; rfl), (by show MB E g ln bf z ke hs t.heap; rw [ht]; exact hM)⟩, hS.F ht⟩) hS.2.2 dL_value_41
      · exfalso
        have f_c_2 : ¬ y.1 ≤ b := fun z9 => c_2 ((nI_leI (a := y.1) (b := b) (by omega) (by omega)).mpr z9)
        omega
    | succ n ih =>
      intro b H locs ls cells slots hbn hc9 hs9 hM hS hl
      refine lv_iload_n hx hb dL_value_4 rfl (lv_at hl 0 rfl) ?_
      refine lv_aload_n hx hb dL_value_5 rfl (lv_at hl 3 rfl) ?_
      refine lv_iconst (v := (nI 0)) hx hb dL_value_6 (by decide) ?_
      refine va_calli (va_runV (As := [.int (nI 0)]) (rest := [.int (nI b)]) ⟨hx, hb, hml, hown, hts⟩ (n_count0 l hst E g ln bf z ke hs hz) (cwV 1 hts gL_value_X5_count rfl rfl rfl (by decide +kernel) ⟨Nat.le_of_ble_eq_true rfl, Nat.le_of_ble_eq_true rfl⟩) ⟨wSx.blind, (w_recv hK hM.main 0 (by decide) rfl (ci := 5) rfl), fun U hU hW => wSx.go hM hK hI hxe hS (fun q h => h) hU hW⟩ rfl rfl hl.1 rfl (lv_room (Nat.le_of_ble_eq_true rfl)) dL_value_7 ⟨(show cells + 1 ≤ 25 by omega), (show slots + 6 ≤ 150 by omega)⟩) hS (fun q _ h => (fun q h => h) q h) (fun q h => h) (fun r_3 uu t H_3 locs_3 ht hvm hw hB hzq hk1 hS => ?_)
      rw [ht] at hB
      have hM := hB
      obtain rfl : r_3 = nI y.1 := hw
      refine lv_icmp_ge (tgt := 40) hx hb dL_value_10 (by decide) (fun c_4 => ?_) (fun c_4 => ?_)
      · exfalso
        have f_c_4 : y.1 ≤ b := (nI_leI (a := y.1) (b := b) (by omega) (by omega)).mp c_4
        omega
      · skip
        refine lv_iload_n hx hb dL_value_13 rfl (lv_at hl 1 rfl) ?_
        refine lv_iload_n hx hb dL_value_14 rfl (lv_at hl 2 rfl) ?_
        refine lv_iload_n hx hb dL_value_15 rfl (lv_at hl 0 rfl) ?_
        refine lv_ishr hx hb dL_value_16 ?_
        refine lv_iconst (v := (nI 1)) hx hb dL_value_17 (by decide) ?_
        refine lv_iand hx hb dL_value_18 ?_
        have hq9 := bN_le k b
        rw [show (((nI k) >>> ((nI b) &&& 31)) &&& (nI 1)) = nI (bN k b) from shr_bit (by omega) (by omega)]
        refine lv_iconst (v := (nI 1)) hx hb dL_value_19 (by decide) ?_
        refine lv_icmp_ne (tgt := 31) hx hb dL_value_20 (by decide) (fun c_5 => ?_) (fun c_5 => ?_)
        · have f_c_5 : ¬ (bN k b) = 1 := fun z9 => c_5 ((nI_eq (a := (bN k b)) (b := 1) (by omega) (by omega)).mpr z9)
          refine lv_iconst (v := (nI 0)) hx hb dL_value_31 (by decide) ?_
          refine lv_ixor hx hb dL_value_32 ?_
          rw [show ((vlP y.2.1 k b) ^^^ (nI 0)) = (vlP y.2.1 k (b + 1)) from vlP_n f_c_5]
          refine lv_istore_n (lv' := [(2, .int ((vlP y.2.1 k (b + 1)))), (3, .int (nI b)), (1, .int (nI k)), (0, .ref ((g 0)))]) hx hb dL_value_33 rfl hl (by decide) rfl (fun ls hl => ?_)
          refine lv_iinc (v := (nI (b + 1))) (lv' := [(3, .int (nI (b + 1))), (2, .int ((vlP y.2.1 k (b + 1)))), (1, .int (nI k)), (0, .ref ((g 0)))]) hx hb dL_value_34 hl (k := 1) rfl (nI_1 _) (by decide) rfl (fun ls hl => ?_)
          refine lv_goto (tgt := 4) hx hb dL_value_37 (by decide) ?_
          exact ih (b + 1) _ _ ls _ _ (by omega) (by omega) (by omega) hM hS (lv_sub hl [0, 1, 2, 3] rfl)
        · have f_c_5 : (bN k b) = 1 := (nI_eq (a := (bN k b)) (b := 1) (by omega) (by omega)).mp c_5
          refine lv_aload_n hx hb dL_value_23 rfl (lv_at hl 3 rfl) ?_
          refine lv_iload_n hx hb dL_value_24 rfl (lv_at hl 0 rfl) ?_
          refine va_calli (va_runV (As := [.int (nI b)]) (rest := [.int ((vlP y.2.1 k b))]) ⟨hx, hb, hml, hown, hts⟩ (n_block l hst E g ln bf z ke hs hz (by omega)) (cwV 1 hts gL_value_X5_block rfl rfl rfl (by decide +kernel) ⟨Nat.le_of_ble_eq_true rfl, Nat.le_of_ble_eq_true rfl⟩) ⟨wSx.blind, (w_recv hK hM.main 0 (by decide) rfl (ci := 5) rfl), fun U hU hW => wSx.go hM hK hI hxe hS (fun q h => h) hU hW⟩ rfl rfl hl.1 rfl (lv_room (Nat.le_of_ble_eq_true rfl)) dL_value_25 ⟨(show cells + 1 + 1 ≤ 25 by omega), (show slots + 6 + 6 ≤ 150 by omega)⟩) hS (fun q _ h => (fun q h => h) q h) (fun q h => h) (fun r_6 uu t H_6 locs_6 ht hvm hw hB hzq hk1 hS => ?_)
          rw [ht] at hB
          have hM := hB
          obtain rfl : r_6 = (y.2.1 b) := hw
          refine lv_goto (tgt := 32) hx hb dL_value_28 (by decide) ?_
          refine lv_ixor hx hb dL_value_32 ?_
          rw [show ((vlP y.2.1 k b) ^^^ (y.2.1 b)) = (vlP y.2.1 k (b + 1)) from vlP_y f_c_5]
          refine lv_istore_n (lv' := [(2, .int ((vlP y.2.1 k (b + 1)))), (3, .int (nI b)), (1, .int (nI k)), (0, .ref ((g 0)))]) hx hb dL_value_33 rfl hl (by decide) rfl (fun ls hl => ?_)
          refine lv_iinc (v := (nI (b + 1))) (lv' := [(3, .int (nI (b + 1))), (2, .int ((vlP y.2.1 k (b + 1)))), (1, .int (nI k)), (0, .ref ((g 0)))]) hx hb dL_value_34 hl (k := 1) rfl (nI_1 _) (by decide) rfl (fun ls hl => ?_)
          refine lv_goto (tgt := 4) hx hb dL_value_37 (by decide) ?_
          exact ih (b + 1) _ _ ls _ _ (by omega) (by omega) (by omega) hM hS (lv_sub hl [0, 1, 2, 3] rfl)
  exact L4 y.1 0 _ _ ls _ _ (by omega) (by omega) (by omega) hM hS (lv_sub hl [0, 1, 3, 2] rfl)
set_option maxHeartbeats 4000000 in
set_option maxRecDepth 100000 in
theorem c_L_does (l : Launch) (hst : l.stackTraces = false) (E : wE) (g : Nat → Nat) (ln : Nat) (bf : Nat → Int32) (z : SS) (ke : Nat) (hs : Nat → SS) {B : Nat} {y : MS} (hz : RZ B z y) (v : Int32) : Met l yL_does wsL_does ({ frames := 8, cells := 3, slots := 18, locals := 175 }) (va_Pc [.ref ((g 0)), .int v] (wSx E 94 g (wF 94 g) (MB E g ln bf z ke hs))) (va_Qi (fun (r : Int32) (u : SS × Nat × (Nat → SS)) => ¬ r < 0 ∧ doP (B + 1) v u.1) (fun u t => MB E g ln bf u.1 u.2.1 u.2.2 t.heap) (wF 94 g)) 3 18 (wF 94 g) := by
  refine Met.ofW (cc := cL_does) (maxL := 3) (ret := (some .int)) (by decide) rfl ?_
  intro p e s m args below meth c s₁ Bd hml hv
  obtain ⟨rfl, hM, hK, hI, hxe⟩ := hv
  have hx := Bd.exec
  have hb := Bd.bytes
  have hr := Bd.returns
  have hts := atoms_spec (ws := wsL_does) Bd.pre
  have hown : s.vm.findClass RL = some m.cls := findClass_of_methodNamed Bd.named
  have hlocks := Bd.notSynchronized
  have hS : va_S (wF 94 g) s.heap s.heap [] := va_S.rf
  have hl := lv_entry ([.ref ((g 0)), .int v]) (n := 3) (Nat.le_of_ble_eq_true rfl)
  rw [lg_entry_eq]
  generalize (lg_sl ([.ref ((g 0)), .int v]) ++ List.replicate (3 - (lg_sl ([.ref ((g 0)), .int v])).length) Slot.unset).toArray = ls at hl ⊢
  have hl : lv_has ls 3 [(0, .ref ((g 0))), (1, .int v)] := hl
  obtain ⟨hzn, hn2, hn12⟩ := rz_nb hz
  refine lv_iload_n hx hb dL_does_0 rfl (lv_at hl 1 rfl) ?_
  refine lv_iconst (v := (nI 4)) hx hb dL_does_1 (by decide) ?_
  refine lv_ishr hx hb dL_does_2 ?_
  refine lv_iconst (v := (nI 3)) hx hb dL_does_3 (by decide) ?_
  refine va_calli (va_runS (As := [.int ((v >>> ((nI 4) &&& 31))), .int (nI 3)]) (rest := []) ⟨hx, hb, hml, hown, hts⟩ (c_L_low l (v >>> ((nI 4) &&& 31)) 3 (by decide) (by decide)) (va_cwS 2 hts gL_does_L_low rfl rfl rfl (by decide +kernel) ⟨Nat.le_of_ble_eq_true rfl, Nat.le_of_ble_eq_true rfl⟩) ⟨wU_blind, fun U hU hW => ⟨rfl, trivial⟩⟩ rfl rfl hl.1 rfl (lv_room (Nat.le_of_ble_eq_true rfl)) dL_does_4 ⟨Nat.le_of_ble_eq_true rfl, Nat.le_of_ble_eq_true rfl⟩) hS (fun q _ h => (fun q h => h.elim) q h) (fun q h => h.elim) (fun r_1 uu t H_1 locs_1 ht hvm hw hB hzq hk1 hS => ?_)
  have hM := hM.keep (fun q hq => hk1 q hq (fun z9 => z9))
  obtain ⟨u, hu, eu⟩ : ∃ q9, q9 < 3 ∧ r_1 = nI q9 := ⟨uu, hw.2, hw.1⟩
  subst eu
  refine lv_istore_n (lv' := [(2, .int (nI u)), (0, .ref ((g 0))), (1, .int v)]) hx hb dL_does_7 rfl hl (by decide) rfl (fun ls hl => ?_)
  refine lv_iload_n hx hb dL_does_8 rfl (lv_at hl 2 rfl) ?_
  refine lv_bipush (v := (nI 15)) hx hb dL_does_9 (by decide) ?_
  refine lv_iand hx hb dL_does_11 ?_
  obtain ⟨a, ha, ea⟩ := and_few (v := v) (k := 15) (by decide)
  rw [ea]
  have h9 : a = 0 ∨ a = 1 ∨ a = 2 ∨ a = 3 ∨ a = 4 ∨ 5 ≤ a := by omega
  rcases h9 with rfl | rfl | rfl | rfl | rfl | h5
  · refine lv_tableIn (off := 36) (tgt := 48) hx hb dL_does_12 (by decide) (by decide) (by decide +kernel) (by decide) ?_
    refine lv_iload_n hx hb dL_does_48 rfl (lv_at hl 2 rfl) ?_
    refine lv_iconst (v := (nI 4)) hx hb dL_does_49 (by decide) ?_
    refine lv_ishr hx hb dL_does_50 ?_
    refine lv_iconst (v := (nI 3)) hx hb dL_does_51 (by decide) ?_
    refine lv_iand hx hb dL_does_52 ?_
    refine lv_if_ne (tgt := 74) hx hb dL_does_53 (by decide) (fun c_2 => ?_) (fun c_2 => ?_)
    · skip
      refine lv_aload_n hx hb dL_does_74 rfl (lv_at hl 1 rfl) ?_
      refine lv_iload_n hx hb dL_does_75 rfl (lv_at hl 2 rfl) ?_
      refine lv_bipush (v := (nI 6)) hx hb dL_does_76 (by decide) ?_
      refine lv_ishr hx hb dL_does_78 ?_
      refine lv_aload_n hx hb dL_does_79 rfl (lv_at hl 1 rfl) ?_
      refine lv_iconst (v := (nI 0)) hx hb dL_does_80 (by decide) ?_
      refine va_calli (va_runV (As := [.int (nI 0)]) (rest := [.int ((v >>> ((nI 6) &&& 31))), .ref ((g 0))]) ⟨hx, hb, hml, hown, hts⟩ (n_count0 l hst E g ln bf z ke hs hz) (cwV 1 hts gL_does_X5_count rfl rfl rfl (by decide +kernel) ⟨Nat.le_of_ble_eq_true rfl, Nat.le_of_ble_eq_true rfl⟩) ⟨wSx.blind, (w_recv hK hM.main 0 (by decide) rfl (ci := 5) rfl), fun U hU hW => wSx.go hM hK hI hxe hS (fun q h => h) hU hW⟩ rfl rfl hl.1 rfl (lv_room (Nat.le_of_ble_eq_true rfl)) dL_does_81 ⟨Nat.le_of_ble_eq_true rfl, Nat.le_of_ble_eq_true rfl⟩) hS (fun q _ h => (fun q h => h) q h) (fun q h => h) (fun r_3 uu t H_3 locs_3 ht hvm hw hB hzq hk1 hS => ?_)
      rw [ht] at hB
      have hM := hB
      obtain rfl : r_3 = nI y.1 := hw
      refine va_calli (va_runS (As := [.int ((v >>> ((nI 6) &&& 31))), .int (nI y.1)]) (rest := [.ref ((g 0))]) ⟨hx, hb, hml, hown, hts⟩ (c_L_low l (v >>> ((nI 6) &&& 31)) y.1 (by omega) (by omega)) (va_cwS 2 hts gL_does_L_low rfl rfl rfl (by decide +kernel) ⟨Nat.le_of_ble_eq_true rfl, Nat.le_of_ble_eq_true rfl⟩) ⟨wU_blind, fun U hU hW => ⟨rfl, trivial⟩⟩ rfl rfl hl.1 rfl (lv_room (Nat.le_of_ble_eq_true rfl)) dL_does_84 ⟨Nat.le_of_ble_eq_true rfl, Nat.le_of_ble_eq_true rfl⟩) hS (fun q _ h => (fun q h => h.elim) q h) (fun q h => h.elim) (fun r_4 uu t H_4 locs_4 ht hvm hw hB hzq hk1 hS => ?_)
      have hM := hM.keep (fun q hq => hk1 q hq (fun z9 => z9))
      obtain ⟨q, hq, eq⟩ : ∃ q9, q9 < y.1 ∧ r_4 = nI q9 := ⟨uu, hw.2, hw.1⟩
      subst eq
      refine lv_iload_n hx hb dL_does_87 rfl (lv_at hl 2 rfl) ?_
      refine lv_bipush (v := (nI 8)) hx hb dL_does_88 (by decide) ?_
      refine lv_ishr hx hb dL_does_90 ?_
      refine lv_ldc hx hb hown (hts (.constant RL 23 (65536)) (List.mem_of_getElem? (i := 1) rfl)) dL_does_91 ?_
      rw [show (65536 : Int32) = nI 65536 from rfl]
      refine va_calli (va_runS (As := [.int ((v >>> ((nI 8) &&& 31))), .int (nI 65536)]) (rest := [.int (nI q), .ref ((g 0))]) ⟨hx, hb, hml, hown, hts⟩ (c_L_low l (v >>> ((nI 8) &&& 31)) 65536 (by decide) (by decide)) (va_cwS 2 hts gL_does_L_low rfl rfl rfl (by decide +kernel) ⟨Nat.le_of_ble_eq_true rfl, Nat.le_of_ble_eq_true rfl⟩) ⟨wU_blind, fun U hU hW => ⟨rfl, trivial⟩⟩ rfl rfl hl.1 rfl (lv_room (Nat.le_of_ble_eq_true rfl)) dL_does_93 ⟨Nat.le_of_ble_eq_true rfl, Nat.le_of_ble_eq_true rfl⟩) hS (fun q _ h => (fun q h => h.elim) q h) (fun q h => h.elim) (fun r_5 uu t H_5 locs_5 ht hvm hw hB hzq hk1 hS => ?_)
      have hM := hM.keep (fun q hq => hk1 q hq (fun z9 => z9))
      obtain ⟨q2, hq2, eq2⟩ : ∃ q9, q9 < 65536 ∧ r_5 = nI q9 := ⟨uu, hw.2, hw.1⟩
      subst eq2
      refine va_calli (va_runV (As := [.int (nI q), .int (nI q2)]) (rest := []) ⟨hx, hb, hml, hown, hts⟩ (n_write l hst E g ln bf z ke hs (b := q) (v := q2) (by omega) (by omega) hq2) (cwV 2 hts gL_does_X5_write rfl rfl rfl (by decide +kernel) ⟨Nat.le_of_ble_eq_true rfl, Nat.le_of_ble_eq_true rfl⟩) ⟨wSx.blind, (w_recv hK hM.main 0 (by decide) rfl (ci := 5) rfl), fun U hU hW => wSx.go hM hK hI hxe hS (fun q h => h) hU hW⟩ rfl rfl hl.1 rfl (lv_room (Nat.le_of_ble_eq_true rfl)) dL_does_96 ⟨Nat.le_of_ble_eq_true rfl, Nat.le_of_ble_eq_true rfl⟩) hS (fun q _ h => (fun q h => h) q h) (fun q h => h) (fun r_6 uu t H_6 locs_6 ht hvm hw hB hzq hk1 hS => ?_)
      rw [ht] at hB
      have hM := hB
      obtain rfl : r_6 = (z.2.1 q) := hw
      obtain ⟨v9, hv9, ev9, _⟩ := rz_va hz q
      refine W.widen (k := 3) (n := 18) (Nat.le_of_ble_eq_true rfl) (Nat.le_of_ble_eq_true rfl) ?_
      exact W.iret (v := (z.2.1 q)) hx hb hr (fun t ht hW => ⟨⟨_, (writeZ z q (nI q2), kpK ke, pushH ke hs z), rfl, ⟨(by rw [ev9]; exact nI_pos (by omega)), ⟨_, RZ_le (write_mk hz (b := q) hq2) (Nat.le_succ B), fun _ => fg_all _⟩⟩, (by show MB E g ln bf _ _ _ t.heap; rw [ht]; exact hM)⟩, hS.F ht⟩) hS.2.2 dL_does_99
    · skip
      refine lv_aload_n hx hb dL_does_56 rfl (lv_at hl 1 rfl) ?_
      refine lv_iconst (v := (nI 2)) hx hb dL_does_57 (by decide) ?_
      refine lv_iload_n hx hb dL_does_58 rfl (lv_at hl 2 rfl) ?_
      refine lv_bipush (v := (nI 6)) hx hb dL_does_59 (by decide) ?_
      refine lv_ishr hx hb dL_does_61 ?_
      refine lv_bipush (v := (nI 11)) hx hb dL_does_62 (by decide) ?_
      refine va_calli (va_runS (As := [.int ((v >>> ((nI 6) &&& 31))), .int (nI 11)]) (rest := [.int (nI 2), .ref ((g 0))]) ⟨hx, hb, hml, hown, hts⟩ (c_L_low l (v >>> ((nI 6) &&& 31)) 11 (by decide) (by decide)) (va_cwS 2 hts gL_does_L_low rfl rfl rfl (by decide +kernel) ⟨Nat.le_of_ble_eq_true rfl, Nat.le_of_ble_eq_true rfl⟩) ⟨wU_blind, fun U hU hW => ⟨rfl, trivial⟩⟩ rfl rfl hl.1 rfl (lv_room (Nat.le_of_ble_eq_true rfl)) dL_does_64 ⟨Nat.le_of_ble_eq_true rfl, Nat.le_of_ble_eq_true rfl⟩) hS (fun q _ h => (fun q h => h.elim) q h) (fun q h => h.elim) (fun r_7 uu t H_7 locs_7 ht hvm hw hB hzq hk1 hS => ?_)
      have hM := hM.keep (fun q hq => hk1 q hq (fun z9 => z9))
      obtain ⟨q, hq, eq⟩ : ∃ q9, q9 < 11 ∧ r_7 = nI q9 := ⟨uu, hw.2, hw.1⟩
      subst eq
      refine lv_iadd hx hb dL_does_67 ?_
      rw [show nI 2 + nI q = nI (2 + q) from nI_add _ _]
      refine va_calli (va_runV (As := [.int (nI (2 + q))]) (rest := []) ⟨hx, hb, hml, hown, hts⟩ (n_size l hst E g ln bf z ke hs (n := 2 + q) (by omega) (by omega)) (cwV 1 hts gL_does_X5_size rfl rfl rfl (by decide +kernel) ⟨Nat.le_of_ble_eq_true rfl, Nat.le_of_ble_eq_true rfl⟩) ⟨wSx.blind, (w_recv hK hM.main 0 (by decide) rfl (ci := 5) rfl), fun U hU hW => wSx.go hM hK hI hxe hS (fun q h => h) hU hW⟩ rfl rfl hl.1 rfl (lv_room (Nat.le_of_ble_eq_true rfl)) dL_does_68 ⟨Nat.le_of_ble_eq_true rfl, Nat.le_of_ble_eq_true rfl⟩) hS (fun q _ h => (fun q h => h) q h) (fun q h => h) (fun r_8 uu t H_8 locs_8 ht hvm hw hB hzq hk1 hS => ?_)
      rw [ht] at hB
      have hM := hB
      obtain rfl : r_8 = nI z.1 := hw
      refine lv_goto (tgt := 99) hx hb dL_does_71 (by decide) ?_
      refine W.widen (k := 3) (n := 18) (Nat.le_of_ble_eq_true rfl) (Nat.le_of_ble_eq_true rfl) ?_
      exact W.iret (v := (nI z.1)) hx hb hr (fun t ht hW => ⟨⟨_, (sizeZ z (2 + q), kpK ke, pushH ke hs z), rfl, ⟨nI_pos (by omega), ⟨_, RZ_le (size_mk hz (n := 2 + q) (by omega) (by omega)) (Nat.le_succ B), fun _ => fg_all _⟩⟩, (by show MB E g ln bf _ _ _ t.heap; rw [ht]; exact hM)⟩, hS.F ht⟩) hS.2.2 dL_does_99
  · refine lv_tableIn (off := 88) (tgt := 100) hx hb dL_does_12 (by decide) (by decide) (by decide +kernel) (by decide) ?_
    refine lv_aload_n hx hb dL_does_100 rfl (lv_at hl 1 rfl) ?_
    refine lv_iload_n hx hb dL_does_101 rfl (lv_at hl 0 rfl) ?_
    refine lv_iload_n hx hb dL_does_102 rfl (lv_at hl 2 rfl) ?_
    refine lv_bipush (v := (nI 6)) hx hb dL_does_103 (by decide) ?_
    refine lv_ishr hx hb dL_does_105 ?_
    refine lv_iconst (v := (nI 3)) hx hb dL_does_106 (by decide) ?_
    refine lv_iand hx hb dL_does_107 ?_
    refine lv_if_le (tgt := 115) hx hb dL_does_108 (by decide) (fun c_9 => ?_) (fun c_9 => ?_)
    · skip
      refine lv_iconst (v := (nI 0)) hx hb dL_does_115 (by decide) ?_
      refine W.eq (g2 := F0 m 116 ls [.int (bI false), .int (nI u), .ref (g 0)]) rfl ?_
      refine va_calli (va_runV (As := [.int (nI u), .int ((bI false))]) (rest := []) ⟨hx, hb, hml, hown, hts⟩ (n_listen l hst E g ln bf z ke hs hu false) (cwV 2 hts gL_does_X5_listen rfl rfl rfl (by decide +kernel) ⟨Nat.le_of_ble_eq_true rfl, Nat.le_of_ble_eq_true rfl⟩) ⟨wSx.blind, (w_recv hK hM.main 0 (by decide) rfl (ci := 5) rfl), fun U hU hW => wSx.go hM hK hI hxe hS (fun q h => h) hU hW⟩ rfl rfl hl.1 rfl (lv_room (Nat.le_of_ble_eq_true rfl)) dL_does_116 ⟨Nat.le_of_ble_eq_true rfl, Nat.le_of_ble_eq_true rfl⟩) hS (fun q _ h => (fun q h => h) q h) (fun q h => h) (fun r_10 uu t H_10 locs_10 ht hvm hw hB hzq hk1 hS => ?_)
      rw [ht] at hB
      have hM := hB
      obtain rfl : r_10 = (bI (z.2.2.2 u).1) := hw
      refine W.widen (k := 3) (n := 18) (Nat.le_of_ble_eq_true rfl) (Nat.le_of_ble_eq_true rfl) ?_
      exact W.iret (v := (bI (z.2.2.2 u).1)) hx hb hr (fun t ht hW => ⟨⟨_, (recvZ z u (false, (z.2.2.2 u).2), kpK ke, pushH ke hs z), rfl, ⟨bI_pos _, doP_no (RZ_le (listen_mk hz hu false) (Nat.le_succ B)) ea (by decide) (by decide)⟩, (by show MB E g ln bf _ _ _ t.heap; rw [ht]; exact hM)⟩, hS.F ht⟩) hS.2.2 dL_does_119
    · skip
      refine lv_iconst (v := (nI 1)) hx hb dL_does_111 (by decide) ?_
      refine lv_goto (tgt := 116) hx hb dL_does_112 (by decide) ?_
      refine W.eq (g2 := F0 m 116 ls [.int (bI true), .int (nI u), .ref (g 0)]) rfl ?_
      refine va_calli (va_runV (As := [.int (nI u), .int ((bI true))]) (rest := []) ⟨hx, hb, hml, hown, hts⟩ (n_listen l hst E g ln bf z ke hs hu true) (cwV 2 hts gL_does_X5_listen rfl rfl rfl (by decide +kernel) ⟨Nat.le_of_ble_eq_true rfl, Nat.le_of_ble_eq_true rfl⟩) ⟨wSx.blind, (w_recv hK hM.main 0 (by decide) rfl (ci := 5) rfl), fun U hU hW => wSx.go hM hK hI hxe hS (fun q h => h) hU hW⟩ rfl rfl hl.1 rfl (lv_room (Nat.le_of_ble_eq_true rfl)) dL_does_116 ⟨Nat.le_of_ble_eq_true rfl, Nat.le_of_ble_eq_true rfl⟩) hS (fun q _ h => (fun q h => h) q h) (fun q h => h) (fun r_11 uu t H_11 locs_11 ht hvm hw hB hzq hk1 hS => ?_)
      rw [ht] at hB
      have hM := hB
      obtain rfl : r_11 = (bI (z.2.2.2 u).1) := hw
      refine W.widen (k := 3) (n := 18) (Nat.le_of_ble_eq_true rfl) (Nat.le_of_ble_eq_true rfl) ?_
      exact W.iret (v := (bI (z.2.2.2 u).1)) hx hb hr (fun t ht hW => ⟨⟨_, (recvZ z u (true, (z.2.2.2 u).2), kpK ke, pushH ke hs z), rfl, ⟨bI_pos _, doP_no (RZ_le (listen_mk hz hu true) (Nat.le_succ B)) ea (by decide) (by decide)⟩, (by show MB E g ln bf _ _ _ t.heap; rw [ht]; exact hM)⟩, hS.F ht⟩) hS.2.2 dL_does_119
  · refine lv_tableIn (off := 88) (tgt := 100) hx hb dL_does_12 (by decide) (by decide) (by decide +kernel) (by decide) ?_
    refine lv_aload_n hx hb dL_does_100 rfl (lv_at hl 1 rfl) ?_
    refine lv_iload_n hx hb dL_does_101 rfl (lv_at hl 0 rfl) ?_
    refine lv_iload_n hx hb dL_does_102 rfl (lv_at hl 2 rfl) ?_
    refine lv_bipush (v := (nI 6)) hx hb dL_does_103 (by decide) ?_
    refine lv_ishr hx hb dL_does_105 ?_
    refine lv_iconst (v := (nI 3)) hx hb dL_does_106 (by decide) ?_
    refine lv_iand hx hb dL_does_107 ?_
    refine lv_if_le (tgt := 115) hx hb dL_does_108 (by decide) (fun c_12 => ?_) (fun c_12 => ?_)
    · skip
      refine lv_iconst (v := (nI 0)) hx hb dL_does_115 (by decide) ?_
      refine W.eq (g2 := F0 m 116 ls [.int (bI false), .int (nI u), .ref (g 0)]) rfl ?_
      refine va_calli (va_runV (As := [.int (nI u), .int ((bI false))]) (rest := []) ⟨hx, hb, hml, hown, hts⟩ (n_listen l hst E g ln bf z ke hs hu false) (cwV 2 hts gL_does_X5_listen rfl rfl rfl (by decide +kernel) ⟨Nat.le_of_ble_eq_true rfl, Nat.le_of_ble_eq_true rfl⟩) ⟨wSx.blind, (w_recv hK hM.main 0 (by decide) rfl (ci := 5) rfl), fun U hU hW => wSx.go hM hK hI hxe hS (fun q h => h) hU hW⟩ rfl rfl hl.1 rfl (lv_room (Nat.le_of_ble_eq_true rfl)) dL_does_116 ⟨Nat.le_of_ble_eq_true rfl, Nat.le_of_ble_eq_true rfl⟩) hS (fun q _ h => (fun q h => h) q h) (fun q h => h) (fun r_13 uu t H_13 locs_13 ht hvm hw hB hzq hk1 hS => ?_)
      rw [ht] at hB
      have hM := hB
      obtain rfl : r_13 = (bI (z.2.2.2 u).1) := hw
      refine W.widen (k := 3) (n := 18) (Nat.le_of_ble_eq_true rfl) (Nat.le_of_ble_eq_true rfl) ?_
      exact W.iret (v := (bI (z.2.2.2 u).1)) hx hb hr (fun t ht hW => ⟨⟨_, (recvZ z u (false, (z.2.2.2 u).2), kpK ke, pushH ke hs z), rfl, ⟨bI_pos _, doP_no (RZ_le (listen_mk hz hu false) (Nat.le_succ B)) ea (by decide) (by decide)⟩, (by show MB E g ln bf _ _ _ t.heap; rw [ht]; exact hM)⟩, hS.F ht⟩) hS.2.2 dL_does_119
    · skip
      refine lv_iconst (v := (nI 1)) hx hb dL_does_111 (by decide) ?_
      refine lv_goto (tgt := 116) hx hb dL_does_112 (by decide) ?_
      refine W.eq (g2 := F0 m 116 ls [.int (bI true), .int (nI u), .ref (g 0)]) rfl ?_
      refine va_calli (va_runV (As := [.int (nI u), .int ((bI true))]) (rest := []) ⟨hx, hb, hml, hown, hts⟩ (n_listen l hst E g ln bf z ke hs hu true) (cwV 2 hts gL_does_X5_listen rfl rfl rfl (by decide +kernel) ⟨Nat.le_of_ble_eq_true rfl, Nat.le_of_ble_eq_true rfl⟩) ⟨wSx.blind, (w_recv hK hM.main 0 (by decide) rfl (ci := 5) rfl), fun U hU hW => wSx.go hM hK hI hxe hS (fun q h => h) hU hW⟩ rfl rfl hl.1 rfl (lv_room (Nat.le_of_ble_eq_true rfl)) dL_does_116 ⟨Nat.le_of_ble_eq_true rfl, Nat.le_of_ble_eq_true rfl⟩) hS (fun q _ h => (fun q h => h) q h) (fun q h => h) (fun r_14 uu t H_14 locs_14 ht hvm hw hB hzq hk1 hS => ?_)
      rw [ht] at hB
      have hM := hB
      obtain rfl : r_14 = (bI (z.2.2.2 u).1) := hw
      refine W.widen (k := 3) (n := 18) (Nat.le_of_ble_eq_true rfl) (Nat.le_of_ble_eq_true rfl) ?_
      exact W.iret (v := (bI (z.2.2.2 u).1)) hx hb hr (fun t ht hW => ⟨⟨_, (recvZ z u (true, (z.2.2.2 u).2), kpK ke, pushH ke hs z), rfl, ⟨bI_pos _, doP_no (RZ_le (listen_mk hz hu true) (Nat.le_succ B)) ea (by decide) (by decide)⟩, (by show MB E g ln bf _ _ _ t.heap; rw [ht]; exact hM)⟩, hS.F ht⟩) hS.2.2 dL_does_119
  · refine lv_tableIn (off := 108) (tgt := 120) hx hb dL_does_12 (by decide) (by decide) (by decide +kernel) (by decide) ?_
    refine lv_iload_n hx hb dL_does_120 rfl (lv_at hl 2 rfl) ?_
    refine lv_bipush (v := (nI 6)) hx hb dL_does_121 (by decide) ?_
    refine lv_ishr hx hb dL_does_123 ?_
    refine lv_iconst (v := (nI 3)) hx hb dL_does_124 (by decide) ?_
    refine lv_iand hx hb dL_does_125 ?_
    refine lv_if_ne (tgt := 137) hx hb dL_does_126 (by decide) (fun c_15 => ?_) (fun c_15 => ?_)
    · skip
      refine lv_iconst (v := (nI 0)) hx hb dL_does_137 (by decide) ?_
      refine W.widen (k := 3) (n := 18) (Nat.le_of_ble_eq_true rfl) (Nat.le_of_ble_eq_true rfl) ?_
      exact W.iret (v := (nI 0)) hx hb hr (fun t ht hW => ⟨⟨_, (z, ke, hs), rfl, ⟨(by decide), doP_no (RZ_le hz (Nat.le_succ B)) ea (by decide) (by decide)⟩, (by show MB E g ln bf _ _ _ t.heap; rw [ht]; exact hM)⟩, hS.F ht⟩) hS.2.2 dL_does_138
    · skip
      refine lv_aload_n hx hb dL_does_129 rfl (lv_at hl 1 rfl) ?_
      refine lv_iload_n hx hb dL_does_130 rfl (lv_at hl 0 rfl) ?_
      refine va_calli (va_runV (As := [.int (nI u)]) (rest := []) ⟨hx, hb, hml, hown, hts⟩ (n_forget l hst E g ln bf z ke hs hz hu) (cwV 1 hts gL_does_X5_forget rfl rfl rfl (by decide +kernel) ⟨Nat.le_of_ble_eq_true rfl, Nat.le_of_ble_eq_true rfl⟩) ⟨wSx.blind, (w_recv hK hM.main 0 (by decide) rfl (ci := 5) rfl), fun U hU hW => wSx.go hM hK hI hxe hS (fun q h => h) hU hW⟩ rfl rfl hl.1 rfl (lv_room (Nat.le_of_ble_eq_true rfl)) dL_does_131 ⟨Nat.le_of_ble_eq_true rfl, Nat.le_of_ble_eq_true rfl⟩) hS (fun q _ h => (fun q h => h) q h) (fun q h => h) (fun r_16 uu t H_16 locs_16 ht hvm hw hB hzq hk1 hS => ?_)
      rw [ht] at hB
      have hM := hB
      obtain rfl : r_16 = nI (pc (y.2.2.2 u).2.1) := hw
      refine lv_goto (tgt := 138) hx hb dL_does_134 (by decide) ?_
      have hpc9 := pc_le (y.2.2.2 u).2.1
      refine W.widen (k := 3) (n := 18) (Nat.le_of_ble_eq_true rfl) (Nat.le_of_ble_eq_true rfl) ?_
      exact W.iret (v := (nI (pc (y.2.2.2 u).2.1))) hx hb hr (fun t ht hW => ⟨⟨_, (recvZ z u (fgR (z.2.2.2 u)), kpK ke, pushH ke hs z), rfl, ⟨nI_pos (by omega), doP_no (RZ_le (forget1_mk hz hu) (Nat.le_succ B)) ea (by decide) (by decide)⟩, (by show MB E g ln bf _ _ _ t.heap; rw [ht]; exact hM)⟩, hS.F ht⟩) hS.2.2 dL_does_138
  · refine lv_tableIn (off := 127) (tgt := 139) hx hb dL_does_12 (by decide) (by decide) (by decide +kernel) (by decide) ?_
    refine lv_aload_n hx hb dL_does_139 rfl (lv_at hl 1 rfl) ?_
    refine lv_iload_n hx hb dL_does_140 rfl (lv_at hl 0 rfl) ?_
    refine va_calli (va_runV (As := [.int (nI u)]) (rest := []) ⟨hx, hb, hml, hown, hts⟩ (n_eliminate l hst E g ln bf z ke hs hz hu) (cwV 1 hts gL_does_X5_eliminate rfl rfl rfl (by decide +kernel) ⟨Nat.le_of_ble_eq_true rfl, Nat.le_of_ble_eq_true rfl⟩) ⟨wSx.blind, (w_recv hK hM.main 0 (by decide) rfl (ci := 5) rfl), fun U hU hW => wSx.go hM hK hI hxe hS (fun q h => h) hU hW⟩ rfl rfl hl.1 rfl (lv_room (Nat.le_of_ble_eq_true rfl)) dL_does_141 ⟨Nat.le_of_ble_eq_true rfl, Nat.le_of_ble_eq_true rfl⟩) hS (fun q _ h => (fun q h => h) q h) (fun q h => h) (fun r_17 uu t H_17 locs_17 ht hvm hw hB hzq hk1 hS => ?_)
    rw [ht] at hB
    have hM := hB
    obtain rfl : r_17 = nI (pc (alnM (redW (y.2.2.2 u).2.2.2.2.2))) := hw
    have hpc9 := pc_le (alnM (redW (y.2.2.2 u).2.2.2.2.2))
    refine W.widen (k := 3) (n := 18) (Nat.le_of_ble_eq_true rfl) (Nat.le_of_ble_eq_true rfl) ?_
    exact W.iret (v := (nI (pc (alnM (redW (y.2.2.2 u).2.2.2.2.2))))) hx hb hr (fun t ht hW => ⟨⟨_, (recvZ z u (elimR (z.2.2.2 u)), kpK ke, pushH ke hs z), rfl, ⟨nI_pos (by omega), doP_no (RZ_le (elim1_mk hz hu) (Nat.le_succ B)) ea (by decide) (by decide)⟩, (by show MB E g ln bf _ _ _ t.heap; rw [ht]; exact hM)⟩, hS.F ht⟩) hS.2.2 dL_does_144
  · refine lv_tableOut (tgt := 145) hx hb dL_does_12 (Or.inr (by rw [nI_toInt (by omega)]; omega)) (by decide) ?_
    refine lv_aload_n hx hb dL_does_145 rfl (lv_at hl 1 rfl) ?_
    refine lv_iload_n hx hb dL_does_146 rfl (lv_at hl 2 rfl) ?_
    refine lv_iconst (v := (nI 4)) hx hb dL_does_147 (by decide) ?_
    refine lv_ishr hx hb dL_does_148 ?_
    refine lv_sipush (v := (nI 10000)) hx hb dL_does_149 (by decide) ?_
    refine va_calli (va_runS (As := [.int ((v >>> ((nI 4) &&& 31))), .int (nI 10000)]) (rest := [.ref ((g 0))]) ⟨hx, hb, hml, hown, hts⟩ (c_L_low l (v >>> ((nI 4) &&& 31)) 10000 (by decide) (by decide)) (va_cwS 2 hts gL_does_L_low rfl rfl rfl (by decide +kernel) ⟨Nat.le_of_ble_eq_true rfl, Nat.le_of_ble_eq_true rfl⟩) ⟨wU_blind, fun U hU hW => ⟨rfl, trivial⟩⟩ rfl rfl hl.1 rfl (lv_room (Nat.le_of_ble_eq_true rfl)) dL_does_152 ⟨Nat.le_of_ble_eq_true rfl, Nat.le_of_ble_eq_true rfl⟩) hS (fun q _ h => (fun q h => h.elim) q h) (fun q h => h.elim) (fun r_18 uu t H_18 locs_18 ht hvm hw hB hzq hk1 hS => ?_)
    have hM := hM.keep (fun q hq => hk1 q hq (fun z9 => z9))
    obtain ⟨q, hq, eq⟩ : ∃ q9, q9 < 10000 ∧ r_18 = nI q9 := ⟨uu, hw.2, hw.1⟩
    subst eq
    refine va_calli (va_runV (As := [.int (nI q)]) (rest := []) ⟨hx, hb, hml, hown, hts⟩ (n_send l hst E g ln bf z ke hs hz hq) (cwV 1 hts gL_does_X5_send rfl rfl rfl (by decide +kernel) ⟨Nat.le_of_ble_eq_true rfl, Nat.le_of_ble_eq_true rfl⟩) ⟨wSx.blind, (w_recv hK hM.main 0 (by decide) rfl (ci := 5) rfl), fun U hU hW => wSx.go hM hK hI hxe hS (fun q h => h) hU hW⟩ rfl rfl hl.1 rfl (lv_room (Nat.le_of_ble_eq_true rfl)) dL_does_155 ⟨Nat.le_of_ble_eq_true rfl, Nat.le_of_ble_eq_true rfl⟩) hS (fun q _ h => (fun q h => h) q h) (fun q h => h) (fun r_19 uu t H_19 locs_19 ht hvm hw hB hzq hk1 hS => ?_)
    rw [ht] at hB
    have hM := hB
    obtain rfl : r_19 = (sumM (mskM y.1 q) y.2.2.2 3) := hw
    obtain ⟨a9, h9, e9⟩ := sum_pos hn12 (mskM_lt (nb := y.1) (by omega) q) (fun i hi => (rz_MI hz hi).1) 3 (Nat.le_refl 3)
    refine W.widen (k := 3) (n := 18) (Nat.le_of_ble_eq_true rfl) (Nat.le_of_ble_eq_true rfl) ?_
    exact W.iret (v := (sumM (mskM y.1 q) y.2.2.2 3)) hx hb hr (fun t ht hW => ⟨⟨_, (sendZ z q, kpK ke, pushH ke hs z), rfl, ⟨(by rw [e9]; exact nI_pos (by omega)), doP_no (send_mk hz q).1 ea (by omega) ha⟩, (by show MB E g ln bf _ _ _ t.heap; rw [ht]; exact hM)⟩, hS.F ht⟩) hS.2.2 dL_does_158

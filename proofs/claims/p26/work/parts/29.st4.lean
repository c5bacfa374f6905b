set_option maxHeartbeats 4000000 in
set_option maxRecDepth 100000 in
theorem c_X4_allForget (l : Launch) (E : wE) (g : Nat → Nat) (nb : Nat) (va : Nat → Int32) (se : Int32) (rs : Nat → RR)  : Met l yX4_allForget wsX4_allForget ({ frames := 1, cells := 0, slots := 0, locals := 21 }) (va_Pc [.ref ((g 0))] (wS E 12 g (stP E g nb va se rs))) (va_Qv (fun (_ : Unit) => True) (fun _ t => stP E g nb va se (mapR fgR rs 3) (t.heap)) (wF 12 g)) 0 0 (wF 12 g) := by
  refine Met.ofW (cc := cX4_allForget) (maxL := 3) (ret := none) (by decide) rfl ?_
  intro p e s m args below meth c s₁ B hml hv
  obtain ⟨rfl, ⟨hP, hR⟩, hK, hI⟩ := hv
  have hx := B.exec
  have hb := B.bytes
  have hr := B.returns
  have hts := atoms_spec (ws := wsX4_allForget) B.pre
  have hown : s.vm.findClass RX4 = some m.cls := findClass_of_methodNamed B.named
  have hlocks := B.notSynchronized
  have hS : va_S (wF 12 g) s.heap s.heap [] := va_S.rf
  have hin4 : ∀ w ∈ wsX40, w ∈ wsX4_allForget := by decide +kernel
  have hA : ∀ k, k < 12 → (wF 12 g) (g k) := wF_in
  have hl := lv_entry ([.ref ((g 0))]) (n := 3) (Nat.le_of_ble_eq_true rfl)
  rw [lg_entry_eq]
  generalize (lg_sl ([.ref ((g 0))]) ++ List.replicate (3 - (lg_sl ([.ref ((g 0))])).length) Slot.unset).toArray = ls at hl ⊢
  have hl : lv_has ls 3 [(0, .ref ((g 0)))] := hl
  have hI9 : wI 3 g := hI.le (by decide)
  have hA : ∀ k, k < 3 → wF 12 g (g k) := fun k hk => wF_in k (by omega)
  refine lv_iconst (v := 0) hx hb dX4_allForget_0 (by decide) ?_
  refine lv_istore_n (lv' := [(1, .int 0), (0, .ref ((g 0)))]) hx hb dX4_allForget_1 rfl hl (by decide) rfl (fun ls hl => ?_)
  rw [← mapR_0 fgR rs] at hR
  have L2 : ∀ (k : Nat) (i : Nat) (H : Heap) (locs : List Loc) (ls : Array Slot), i + k = 3 → wP E 3 g (stF E g nb va se) H → stR E g (mapR fgR rs i) H → va_S (wF 12 g) s.heap H locs → lv_has ls 3 [(1, .int (nI i)), (0, .ref ((g 0)))] → W p l e (headSpec wsX4_allForget ({ frames := 1, cells := 0, slots := 0, locals := 21 })).room s m ([.ref ((g 0))] : List Value).toArray below meth c H locs 0 0 (MQ below (va_Qv (fun (_ : Unit) => True) (fun _ t => stP E g nb va se (mapR fgR rs 3) (t.heap)) (wF 12 g)) ([.ref ((g 0))] : List Value).toArray s 0 0 (wF 12 g)) (F0 m 2 ls []) := by
    intro k
    induction k with
    | zero =>
      intro i H locs ls hi hP hR hS hl
      refine lv_iload_n hx hb dX4_allForget_2 rfl (lv_at hl 0 rfl) ?_
      refine lv_aload_n hx hb dX4_allForget_3 rfl (lv_at hl 1 rfl) ?_
      refine w_get (C := RX4) (T := TX4) (N := 4) (ci := 4) (v := .ref ((g 2))) hx hb hts hin4 hown hK hP 0 (by decide) rfl rfl 3 (by decide) (hts (.fieldLink RX4 24 "MixedBlocks$State" "receivers" "[LMixedBlocks$Receiver;") (List.mem_of_getElem? (i := 1) rfl)) (fun _ h9 => h9) rfl dX4_allForget_4 ?_
      refine w_alenq (v := 3) hx hb hK hP 2 (by decide) 1 rfl rfl rfl dX4_allForget_7 ?_
      refine lv_icmp_ge (tgt := 32) hx hb dX4_allForget_8 (by decide) (fun c_1 => ?_) (fun c_1 => ?_)
      · have n_1 : 3 ≤ i := (nI_leI (a := 3) (b := i) (by omega) (by omega)).mp c_1
        rw [show i = 3 from by omega] at hR
        exact W.vret hx hb hr (fun t ht hW => ⟨⟨(), rfl, trivial, (by show stP E g nb va se (mapR fgR rs 3) t.heap; rw [ht]; exact ⟨hP, hR⟩)⟩, hS.F ht⟩) hS.2.2 dX4_allForget_32
      · have n_1 : ¬ 3 ≤ i := fun z => c_1 ((nI_leI (a := 3) (b := i) (by omega) (by omega)).mpr z)
        exfalso
        omega
    | succ k ih =>
      intro i H locs ls hi hP hR hS hl
      refine lv_iload_n hx hb dX4_allForget_2 rfl (lv_at hl 0 rfl) ?_
      refine lv_aload_n hx hb dX4_allForget_3 rfl (lv_at hl 1 rfl) ?_
      refine w_get (C := RX4) (T := TX4) (N := 4) (ci := 4) (v := .ref ((g 2))) hx hb hts hin4 hown hK hP 0 (by decide) rfl rfl 3 (by decide) (hts (.fieldLink RX4 24 "MixedBlocks$State" "receivers" "[LMixedBlocks$Receiver;") (List.mem_of_getElem? (i := 1) rfl)) (fun _ h9 => h9) rfl dX4_allForget_4 ?_
      refine w_alenq (v := 3) hx hb hK hP 2 (by decide) 1 rfl rfl rfl dX4_allForget_7 ?_
      refine lv_icmp_ge (tgt := 32) hx hb dX4_allForget_8 (by decide) (fun c_2 => ?_) (fun c_2 => ?_)
      · have n_2 : 3 ≤ i := (nI_leI (a := 3) (b := i) (by omega) (by omega)).mp c_2
        exfalso
        omega
      · have n_2 : ¬ 3 ≤ i := fun z => c_2 ((nI_leI (a := 3) (b := i) (by omega) (by omega)).mpr z)
        refine lv_aload_n hx hb dX4_allForget_11 rfl (lv_at hl 1 rfl) ?_
        refine w_get (C := RX4) (T := TX4) (N := 4) (ci := 4) (v := .ref ((g 2))) hx hb hts hin4 hown hK hP 0 (by decide) rfl rfl 3 (by decide) (hts (.fieldLink RX4 24 "MixedBlocks$State" "receivers" "[LMixedBlocks$Receiver;") (List.mem_of_getElem? (i := 1) rfl)) (fun _ h9 => h9) rfl dX4_allForget_12 ?_
        refine lv_iload_n hx hb dX4_allForget_15 rfl (lv_at hl 0 rfl) ?_
        refine w_aldq hx hb hK hP 2 (by decide) 1 rfl rfl (vp_in_nI (by omega) (by decide)) dX4_allForget_16 ?_
        rw [nI_clamp (by omega)]
        refine lv_astore_n (lv' := [(2, .ref ((g (3 + 3 * i)))), (1, .int (nI i)), (0, .ref ((g 0)))]) hx hb dX4_allForget_17 rfl hl (by decide) rfl (fun ls hl => ?_)
        refine lv_aload_n hx hb dX4_allForget_18 rfl (lv_at hl 0 rfl) ?_
        have hRi := hR i (by omega)
        rw [mapR_at] at hRi
        obtain ⟨hlnI, lfI, hlfI, hPI⟩ := id hRi
        refine lv_ifnull hx hb dX4_allForget_19 ?_
        refine lv_aload_n hx hb dX4_allForget_22 rfl (lv_at hl 0 rfl) ?_
        refine va_callv (va_runV (As := []) (rest := []) ⟨hx, hb, hml, hown, hts⟩ (c_X3_forgetAll l E (rg g i) (rs i).1 (rs i).2.1 (rs i).2.2.1 (rs i).2.2.2.1 (rs i).2.2.2.2.1 (rs i).2.2.2.2.2.1 (rs i).2.2.2.2.2.2) (cwV 0 hts gX4_allForget_X3_forgetAll rfl rfl rfl (by decide +kernel) ⟨Nat.le_of_ble_eq_true rfl, Nat.le_of_ble_eq_true rfl⟩) ⟨wS.blind, (w_recv hK hPI 0 (by decide) rfl (ci := 3) rfl), fun U hU hW => wS.go hRi hK (rg_I hI (by omega)) hU hW⟩ rfl rfl hl.1 rfl (lv_room (Nat.le_of_ble_eq_true rfl)) dX4_allForget_23 ⟨Nat.zero_le _, Nat.zero_le _⟩) hS (fun q _ h => rg_in (by omega) q h) (fun q h => rg_in (by omega) q h) (fun uu t H_3 locs_3 ht hvm hw hB hz1 hk1 hS => ?_)
        have hP := hP.other hk1 (rg_main hI (by omega))
        rw [ht] at hB
        have hR := hR.set hI (by omega) hk1 (r := fgR (rs i)) hB
        rw [mapR_s] at hR
        refine lv_iinc (v := (nI (i + 1))) (lv' := [(1, .int (nI (i + 1))), (2, .ref ((g (3 + 3 * i)))), (0, .ref ((g 0)))]) hx hb dX4_allForget_26 hl (k := 1) rfl (nI_1 _) (by decide) rfl (fun ls hl => ?_)
        refine lv_goto (tgt := 2) hx hb dX4_allForget_29 (by decide) ?_
        exact ih (i + 1) _ _ ls (by omega) hP hR hS (lv_sub hl [0, 2] rfl)
  exact L2 3 0 _ _ ls rfl hP hR hS (lv_sub hl [0, 1] rfl)
set_option maxHeartbeats 4000000 in
set_option maxRecDepth 100000 in
theorem c_X4_resize (l : Launch) (E : wE) (g : Nat → Nat) (nb : Nat) (va : Nat → Int32) (se : Int32) (rs : Nat → RR) (n2 : Nat) (hn2 : n2 ≤ 12) : Met l yX4_resize wsX4_resize ({ frames := 2, cells := 0, slots := 0, locals := 43 }) (va_Pc [.ref ((g 0)), .int (nI n2)] (wS E 12 g (stP E g nb va se rs))) (va_Qv (fun (_ : Unit) => True) (fun _ t => stP E g n2 (cutV va n2 12) se (mapR fgR rs 3) (t.heap)) (wF 12 g)) 0 0 (wF 12 g) := by
  refine Met.ofW (cc := cX4_resize) (maxL := 3) (ret := none) (by decide) rfl ?_
  intro p e s m args below meth c s₁ B hml hv
  obtain ⟨rfl, ⟨hP, hR⟩, hK, hI⟩ := hv
  have hx := B.exec
  have hb := B.bytes
  have hr := B.returns
  have hts := atoms_spec (ws := wsX4_resize) B.pre
  have hown : s.vm.findClass RX4 = some m.cls := findClass_of_methodNamed B.named
  have hlocks := B.notSynchronized
  have hS : va_S (wF 12 g) s.heap s.heap [] := va_S.rf
  have hin4 : ∀ w ∈ wsX40, w ∈ wsX4_resize := by decide +kernel
  have hA : ∀ k, k < 12 → (wF 12 g) (g k) := wF_in
  have hl := lv_entry ([.ref ((g 0)), .int (nI n2)]) (n := 3) (Nat.le_of_ble_eq_true rfl)
  rw [lg_entry_eq]
  generalize (lg_sl ([.ref ((g 0)), .int (nI n2)]) ++ List.replicate (3 - (lg_sl ([.ref ((g 0)), .int (nI n2)])).length) Slot.unset).toArray = ls at hl ⊢
  have hl : lv_has ls 3 [(0, .ref ((g 0))), (1, .int (nI n2))] := hl
  have hI9 : wI 3 g := hI.le (by decide)
  have hA : ∀ k, k < 3 → wF 12 g (g k) := fun k hk => wF_in k (by omega)
  refine lv_aload_n hx hb dX4_resize_0 rfl (lv_at hl 0 rfl) ?_
  refine lv_iload_n hx hb dX4_resize_1 rfl (lv_at hl 1 rfl) ?_
  refine w_putO (C := RX4) (T := TX4) (N := 4) (ci := 4) (v := .int (nI n2)) (ty := .int) hx hb hts hin4 tyX4 tyX4_ok nmX4 hown hK hP hI9 hA hS 0 (by decide) rfl rfl 0 (by decide) (hts (.fieldLink RX4 9 "MixedBlocks$State" "blocks" "I") (List.mem_of_getElem? (i := 1) rfl)) (fun _ h9 => h9) rfl (by decide +kernel) rfl rfl (Nat.le_of_ble_eq_true rfl) dX4_resize_2 (stF E g n2 va se) rfl st_ne0 (fun H_1 locs_1 hP hO hS => ?_)
  have hR := hR.put hI (by decide) hO
  refine lv_iconst (v := 0) hx hb dX4_resize_5 (by decide) ?_
  refine lv_istore_n (lv' := [(2, .int 0), (0, .ref ((g 0))), (1, .int (nI n2))]) hx hb dX4_resize_6 rfl hl (by decide) rfl (fun ls hl => ?_)
  rw [← cutV_0 va n2] at hP
  have L7 : ∀ (k : Nat) (i : Nat) (H : Heap) (locs : List Loc) (ls : Array Slot), i + k = 12 → wP E 3 g (stF E g n2 (cutV va n2 i) se) H → stR E g rs H → va_S (wF 12 g) s.heap H locs → lv_has ls 3 [(2, .int (nI i)), (0, .ref ((g 0))), (1, .int (nI n2))] → W p l e (headSpec wsX4_resize ({ frames := 2, cells := 0, slots := 0, locals := 43 })).room s m ([.ref ((g 0)), .int (nI n2)] : List Value).toArray below meth c H locs 0 0 (MQ below (va_Qv (fun (_ : Unit) => True) (fun _ t => stP E g n2 (cutV va n2 12) se (mapR fgR rs 3) (t.heap)) (wF 12 g)) ([.ref ((g 0)), .int (nI n2)] : List Value).toArray s 0 0 (wF 12 g)) (F0 m 7 ls []) := by
    intro k
    induction k with
    | zero =>
      intro i H locs ls hi hP hR hS hl
      refine lv_iload_n hx hb dX4_resize_7 rfl (lv_at hl 0 rfl) ?_
      refine lv_aload_n hx hb dX4_resize_8 rfl (lv_at hl 1 rfl) ?_
      refine w_get (C := RX4) (T := TX4) (N := 4) (ci := 4) (v := .ref ((g 1))) hx hb hts hin4 hown hK hP 0 (by decide) rfl rfl 1 (by decide) (hts (.fieldLink RX4 15 "MixedBlocks$State" "values" "[I") (List.mem_of_getElem? (i := 2) rfl)) (fun _ h9 => h9) rfl dX4_resize_9 ?_
      refine w_alen (v := 12) hx hb hK hP 1 (by decide) rfl rfl dX4_resize_12 ?_
      refine lv_icmp_ge (tgt := 34) hx hb dX4_resize_13 (by decide) (fun c_2 => ?_) (fun c_2 => ?_)
      · have n_2 : 12 ≤ i := (nI_leI (a := 12) (b := i) (by omega) (by omega)).mp c_2
        rw [show i = 12 from by omega] at hP
        refine lv_aload_n hx hb dX4_resize_34 rfl (lv_at hl 1 rfl) ?_
        refine va_callv (va_runV (As := []) (rest := []) ⟨hx, hb, hml, hown, hts⟩ (c_X4_allForget l E g n2 (cutV va n2 12) se rs) (cwV 0 hts gX4_resize_X4_allForget rfl rfl rfl (by decide +kernel) ⟨Nat.le_of_ble_eq_true rfl, Nat.le_of_ble_eq_true rfl⟩) ⟨wS.blind, (w_recv hK hP 0 (by decide) rfl (ci := 4) rfl), fun U hU hW => wS.go ⟨hP, hR⟩ hK hI hU hW⟩ rfl rfl hl.1 rfl (lv_room (Nat.le_of_ble_eq_true rfl)) dX4_resize_35 ⟨Nat.zero_le _, Nat.zero_le _⟩) hS (fun q _ h => h) (fun q h => h) (fun uu t H_3 locs_3 ht hvm hw hB hz1 hk1 hS => ?_)
        rw [ht] at hB
        obtain ⟨hP, hR⟩ := hB
        exact W.vret hx hb hr (fun t ht hW => ⟨⟨(), rfl, trivial, (by show stP E g n2 (cutV va n2 12) se (mapR fgR rs 3) t.heap; rw [ht]; exact ⟨hP, hR⟩)⟩, hS.F ht⟩) hS.2.2 dX4_resize_38
      · have n_2 : ¬ 12 ≤ i := fun z => c_2 ((nI_leI (a := 12) (b := i) (by omega) (by omega)).mpr z)
        exfalso
        omega
    | succ k ih =>
      intro i H locs ls hi hP hR hS hl
      refine lv_iload_n hx hb dX4_resize_7 rfl (lv_at hl 0 rfl) ?_
      refine lv_aload_n hx hb dX4_resize_8 rfl (lv_at hl 1 rfl) ?_
      refine w_get (C := RX4) (T := TX4) (N := 4) (ci := 4) (v := .ref ((g 1))) hx hb hts hin4 hown hK hP 0 (by decide) rfl rfl 1 (by decide) (hts (.fieldLink RX4 15 "MixedBlocks$State" "values" "[I") (List.mem_of_getElem? (i := 2) rfl)) (fun _ h9 => h9) rfl dX4_resize_9 ?_
      refine w_alen (v := 12) hx hb hK hP 1 (by decide) rfl rfl dX4_resize_12 ?_
      refine lv_icmp_ge (tgt := 34) hx hb dX4_resize_13 (by decide) (fun c_4 => ?_) (fun c_4 => ?_)
      · have n_4 : 12 ≤ i := (nI_leI (a := 12) (b := i) (by omega) (by omega)).mp c_4
        exfalso
        omega
      · have n_4 : ¬ 12 ≤ i := fun z => c_4 ((nI_leI (a := 12) (b := i) (by omega) (by omega)).mpr z)
        refine lv_iload_n hx hb dX4_resize_16 rfl (lv_at hl 0 rfl) ?_
        refine lv_iload_n hx hb dX4_resize_17 rfl (lv_at hl 2 rfl) ?_
        refine lv_icmp_lt (tgt := 28) hx hb dX4_resize_18 (by decide) (fun c_5 => ?_) (fun c_5 => ?_)
        · have n_5 : i < n2 := (nI_ltI (a := i) (b := n2) (by omega) (by omega)).mp c_5
          refine lv_iinc (v := (nI (i + 1))) (lv' := [(2, .int (nI (i + 1))), (0, .ref ((g 0))), (1, .int (nI n2))]) hx hb dX4_resize_28 hl (k := 0) rfl (nI_1 _) (by decide) rfl (fun ls hl => ?_)
          refine lv_goto (tgt := 7) hx hb dX4_resize_31 (by decide) ?_
          rw [cutV_z (by omega)] at hP
          exact ih (i + 1) _ _ ls (by omega) hP hR hS (lv_sub hl [0, 1, 2] rfl)
        · have n_5 : ¬ i < n2 := fun z => c_5 ((nI_ltI (a := i) (b := n2) (by omega) (by omega)).mpr z)
          refine lv_aload_n hx hb dX4_resize_21 rfl (lv_at hl 1 rfl) ?_
          refine w_get (C := RX4) (T := TX4) (N := 4) (ci := 4) (v := .ref ((g 1))) hx hb hts hin4 hown hK hP 0 (by decide) rfl rfl 1 (by decide) (hts (.fieldLink RX4 15 "MixedBlocks$State" "values" "[I") (List.mem_of_getElem? (i := 2) rfl)) (fun _ h9 => h9) rfl dX4_resize_22 ?_
          refine lv_iload_n hx hb dX4_resize_25 rfl (lv_at hl 0 rfl) ?_
          refine lv_iconst (v := 0) hx hb dX4_resize_26 (by decide) ?_
          refine w_iastO hx hb hK hP hI9 hA hS 1 (by decide) rfl (vp_in_nI (by omega) (by decide)) dX4_resize_27 (stF E g n2 (upd (cutV va n2 i) i 0) se) (congrArg (fun z : Nat => (Sum.inl (E.2.1, 12, Sum.inl (upd (cutV va n2 i) z 0)) : va_E)) (nI_clamp (by omega)).symm) st_ne1 (fun H_6 locs_6 hP hO hS => ?_)
          have hR := hR.put hI (by decide) hO
          refine lv_iinc (v := (nI (i + 1))) (lv' := [(2, .int (nI (i + 1))), (0, .ref ((g 0))), (1, .int (nI n2))]) hx hb dX4_resize_28 hl (k := 0) rfl (nI_1 _) (by decide) rfl (fun ls hl => ?_)
          refine lv_goto (tgt := 7) hx hb dX4_resize_31 (by decide) ?_
          rw [cutV_y (by omega)] at hP
          exact ih (i + 1) _ _ ls (by omega) hP hR hS (lv_sub hl [0, 1, 2] rfl)
  exact L7 12 0 _ _ ls rfl hP hR hS (lv_sub hl [0, 1, 2] rfl)
set_option maxHeartbeats 4000000 in
set_option maxRecDepth 100000 in
theorem c_X4_change (l : Launch) (E : wE) (g : Nat → Nat) (nb : Nat) (va : Nat → Int32) (se : Int32) (rs : Nat → RR) (b : Nat) (hb12 : b < 12) (v : Int32) : Met l yX4_change wsX4_change ({ frames := 2, cells := 0, slots := 0, locals := 43 }) (va_Pc [.ref ((g 0)), .int (nI b), .int v] (wS E 12 g (stP E g nb va se rs))) (va_Qv (fun (_ : Unit) => True) (fun _ t => stP E g nb (upd va b v) se (mapR fgR rs 3) (t.heap)) (wF 12 g)) 0 0 (wF 12 g) := by
  refine Met.ofW (cc := cX4_change) (maxL := 3) (ret := none) (by decide) rfl ?_
  intro p e s m args below meth c s₁ B hml hv
  obtain ⟨rfl, ⟨hP, hR⟩, hK, hI⟩ := hv
  have hx := B.exec
  have hb := B.bytes
  have hr := B.returns
  have hts := atoms_spec (ws := wsX4_change) B.pre
  have hown : s.vm.findClass RX4 = some m.cls := findClass_of_methodNamed B.named
  have hlocks := B.notSynchronized
  have hS : va_S (wF 12 g) s.heap s.heap [] := va_S.rf
  have hin4 : ∀ w ∈ wsX40, w ∈ wsX4_change := by decide +kernel
  have hA : ∀ k, k < 12 → (wF 12 g) (g k) := wF_in
  have hl := lv_entry ([.ref ((g 0)), .int (nI b), .int v]) (n := 3) (Nat.le_of_ble_eq_true rfl)
  rw [lg_entry_eq]
  generalize (lg_sl ([.ref ((g 0)), .int (nI b), .int v]) ++ List.replicate (3 - (lg_sl ([.ref ((g 0)), .int (nI b), .int v])).length) Slot.unset).toArray = ls at hl ⊢
  have hl : lv_has ls 3 [(0, .ref ((g 0))), (1, .int (nI b)), (2, .int v)] := hl
  have hI9 : wI 3 g := hI.le (by decide)
  have hA : ∀ k, k < 3 → wF 12 g (g k) := fun k hk => wF_in k (by omega)
  refine lv_iload_n hx hb dX4_change_0 rfl (lv_at hl 1 rfl) ?_
  refine lv_if_lt (tgt := 20) hx hb dX4_change_1 (by decide) (fun c_1 => ?_) (fun c_1 => ?_)
  · exact absurd c_1 (nI_pos (by omega))
  · refine lv_iload_n hx hb dX4_change_4 rfl (lv_at hl 1 rfl) ?_
    refine lv_aload_n hx hb dX4_change_5 rfl (lv_at hl 0 rfl) ?_
    refine w_get (C := RX4) (T := TX4) (N := 4) (ci := 4) (v := .ref ((g 1))) hx hb hts hin4 hown hK hP 0 (by decide) rfl rfl 1 (by decide) (hts (.fieldLink RX4 15 "MixedBlocks$State" "values" "[I") (List.mem_of_getElem? (i := 1) rfl)) (fun _ h9 => h9) rfl dX4_change_6 ?_
    refine w_alen (v := 12) hx hb hK hP 1 (by decide) rfl rfl dX4_change_9 ?_
    refine lv_icmp_ge (tgt := 20) hx hb dX4_change_10 (by decide) (fun c_2 => ?_) (fun c_2 => ?_)
    · exact absurd ((nI_leI (a := 12) (by omega) (by omega)).mp c_2) (by omega)
    · refine lv_aload_n hx hb dX4_change_13 rfl (lv_at hl 0 rfl) ?_
      refine w_get (C := RX4) (T := TX4) (N := 4) (ci := 4) (v := .ref ((g 1))) hx hb hts hin4 hown hK hP 0 (by decide) rfl rfl 1 (by decide) (hts (.fieldLink RX4 15 "MixedBlocks$State" "values" "[I") (List.mem_of_getElem? (i := 1) rfl)) (fun _ h9 => h9) rfl dX4_change_14 ?_
      refine lv_iload_n hx hb dX4_change_17 rfl (lv_at hl 1 rfl) ?_
      refine lv_iload_n hx hb dX4_change_18 rfl (lv_at hl 2 rfl) ?_
      refine w_iastO hx hb hK hP hI9 hA hS 1 (by decide) rfl (vp_in_nI (by omega) (by decide)) dX4_change_19 (stF E g nb (upd va b v) se) (congrArg (fun z : Nat => (Sum.inl (E.2.1, 12, Sum.inl (upd va z v)) : va_E)) (nI_clamp (by omega)).symm) st_ne1 (fun H_3 locs_3 hP hO hS => ?_)
      have hR := hR.put hI (by decide) hO
      refine lv_aload_n hx hb dX4_change_20 rfl (lv_at hl 0 rfl) ?_
      refine va_callv (va_runV (As := []) (rest := []) ⟨hx, hb, hml, hown, hts⟩ (c_X4_allForget l E g nb (upd va b v) se rs) (cwV 0 hts gX4_change_X4_allForget rfl rfl rfl (by decide +kernel) ⟨Nat.le_of_ble_eq_true rfl, Nat.le_of_ble_eq_true rfl⟩) ⟨wS.blind, (w_recv hK hP 0 (by decide) rfl (ci := 4) rfl), fun U hU hW => wS.go ⟨hP, hR⟩ hK hI hU hW⟩ rfl rfl hl.1 rfl (lv_room (Nat.le_of_ble_eq_true rfl)) dX4_change_21 ⟨Nat.zero_le _, Nat.zero_le _⟩) hS (fun q _ h => h) (fun q h => h) (fun uu t H_4 locs_4 ht hvm hw hB hz1 hk1 hS => ?_)
      rw [ht] at hB
      obtain ⟨hP, hR⟩ := hB
      exact W.vret hx hb hr (fun t ht hW => ⟨⟨(), rfl, trivial, (by show stP E g nb (upd va b v) se (mapR fgR rs 3) t.heap; rw [ht]; exact ⟨hP, hR⟩)⟩, hS.F ht⟩) hS.2.2 dX4_change_24
set_option maxHeartbeats 4000000 in
set_option maxRecDepth 100000 in
theorem c_X4_firstOutside (l : Launch) (E : wE) (g : Nat → Nat) (nb : Nat) (va : Nat → Int32) (se : Int32) (rs : Nat → RR) (x : Int32) (b : Nat) (hb2 : b < nb) (hnb : nb ≤ 12) : Met l yX4_firstOutside wsX4_firstOutside ({ frames := 1, cells := 0, slots := 0, locals := 21 }) (va_Pc [.ref ((g 0)), .int x, .int (nI b)] (wS E 12 g (stP E g nb va se rs))) (va_Qi (fun (r : Int32) (_ : Unit) => r = nI (foS nb x nb b)) (fun _ t => True) wN) 0 0 wN := by
  refine Met.ofW (cc := cX4_firstOutside) (maxL := 5) (ret := (some .int)) (by decide) rfl ?_
  intro p e s m args below meth c s₁ B hml hv
  obtain ⟨rfl, ⟨hP, hR⟩, hK, hI⟩ := hv
  have hx := B.exec
  have hb := B.bytes
  have hr := B.returns
  have hts := atoms_spec (ws := wsX4_firstOutside) B.pre
  have hown : s.vm.findClass RX4 = some m.cls := findClass_of_methodNamed B.named
  have hlocks := B.notSynchronized
  have hS : va_S wN s.heap s.heap [] := va_S.rf
  have hin4 : ∀ w ∈ wsX40, w ∈ wsX4_firstOutside := by decide +kernel
  have hl := lv_entry ([.ref ((g 0)), .int x, .int (nI b)]) (n := 5) (Nat.le_of_ble_eq_true rfl)
  rw [lg_entry_eq]
  generalize (lg_sl ([.ref ((g 0)), .int x, .int (nI b)]) ++ List.replicate (5 - (lg_sl ([.ref ((g 0)), .int x, .int (nI b)])).length) Slot.unset).toArray = ls at hl ⊢
  have hl : lv_has ls 5 [(0, .ref ((g 0))), (1, .int x), (2, .int (nI b))] := hl
  refine lv_iload_n hx hb dX4_firstOutside_0 rfl (lv_at hl 2 rfl) ?_
  refine lv_istore_n (lv' := [(3, .int (nI b)), (0, .ref ((g 0))), (1, .int x), (2, .int (nI b))]) hx hb dX4_firstOutside_1 rfl hl (by decide) rfl (fun ls hl => ?_)
  refine lv_iconst (v := 0) hx hb dX4_firstOutside_2 (by decide) ?_
  refine lv_istore (lv' := [(4, .int 0), (3, .int (nI b)), (0, .ref ((g 0))), (1, .int x), (2, .int (nI b))]) hx hb dX4_firstOutside_3 hl (by decide) rfl (fun ls hl => ?_)
  have L5 : ∀ (k : Nat) (i bb : Nat) (H : Heap) (locs : List Loc) (ls : Array Slot), i + k = nb → bb < nb → foS nb x k bb = foS nb x nb b → wP E 3 g (stF E g nb va se) H → stR E g rs H → va_S wN s.heap H locs → lv_has ls 5 [(4, .int (nI i)), (3, .int (nI bb)), (0, .ref ((g 0))), (1, .int x), (2, .int (nI b))] → W p l e (headSpec wsX4_firstOutside ({ frames := 1, cells := 0, slots := 0, locals := 21 })).room s m ([.ref ((g 0)), .int x, .int (nI b)] : List Value).toArray below meth c H locs 0 0 (MQ below (va_Qi (fun (r : Int32) (_ : Unit) => r = nI (foS nb x nb b)) (fun _ t => True) wN) ([.ref ((g 0)), .int x, .int (nI b)] : List Value).toArray s 0 0 wN) (F0 m 5 ls []) := by
    intro k
    induction k with
    | zero =>
      intro i bb H locs ls hi hbb hres hP hR hS hl
      refine lv_iload hx hb dX4_firstOutside_5 (lv_at hl 0 rfl) ?_
      refine lv_aload_n hx hb dX4_firstOutside_7 rfl (lv_at hl 2 rfl) ?_
      refine w_get (C := RX4) (T := TX4) (N := 4) (ci := 4) (v := .int (nI nb)) hx hb hts hin4 hown hK hP 0 (by decide) rfl rfl 0 (by decide) (hts (.fieldLink RX4 9 "MixedBlocks$State" "blocks" "I") (List.mem_of_getElem? (i := 1) rfl)) (fun _ h9 => h9) rfl dX4_firstOutside_8 ?_
      refine lv_icmp_ge (tgt := 46) hx hb dX4_firstOutside_11 (by decide) (fun c_1 => ?_) (fun c_1 => ?_)
      · have n_1 : nb ≤ i := (nI_leI (a := nb) (b := i) (by omega) (by omega)).mp c_1
        refine lv_iload_n hx hb dX4_firstOutside_46 rfl (lv_at hl 1 rfl) ?_
        exact W.iret (v := (nI bb)) hx hb hr (fun t ht hW => ⟨⟨_, (), rfl, (by show _ = _; rw [← hres]; rfl), trivial⟩, hS.F ht⟩) hS.2.2 dX4_firstOutside_47
      · have n_1 : ¬ nb ≤ i := fun z => c_1 ((nI_leI (a := nb) (b := i) (by omega) (by omega)).mpr z)
        exfalso
        omega
    | succ k ih =>
      intro i bb H locs ls hi hbb hres hP hR hS hl
      refine lv_iload hx hb dX4_firstOutside_5 (lv_at hl 0 rfl) ?_
      refine lv_aload_n hx hb dX4_firstOutside_7 rfl (lv_at hl 2 rfl) ?_
      refine w_get (C := RX4) (T := TX4) (N := 4) (ci := 4) (v := .int (nI nb)) hx hb hts hin4 hown hK hP 0 (by decide) rfl rfl 0 (by decide) (hts (.fieldLink RX4 9 "MixedBlocks$State" "blocks" "I") (List.mem_of_getElem? (i := 1) rfl)) (fun _ h9 => h9) rfl dX4_firstOutside_8 ?_
      refine lv_icmp_ge (tgt := 46) hx hb dX4_firstOutside_11 (by decide) (fun c_2 => ?_) (fun c_2 => ?_)
      · have n_2 : nb ≤ i := (nI_leI (a := nb) (b := i) (by omega) (by omega)).mp c_2
        exfalso
        omega
      · have n_2 : ¬ nb ≤ i := fun z => c_2 ((nI_leI (a := nb) (b := i) (by omega) (by omega)).mpr z)
        refine lv_iload_n hx hb dX4_firstOutside_14 rfl (lv_at hl 3 rfl) ?_
        refine lv_iload_n hx hb dX4_firstOutside_15 rfl (lv_at hl 1 rfl) ?_
        refine va_calli (va_runSN (As := [.int x, .int (nI bb)]) (rest := []) ⟨hx, hb, hml, hown, hts⟩ (c_X5_holds l x (nI bb)) ⟨va_cnB 2 hts gX4_firstOutside_X5_holds_n73 rfl rfl rfl (hK.2 _ nm_X4_73) (hts (.initialized RX5) (List.mem_of_getElem? (i := 3) rfl)) (by decide +kernel) ⟨Nat.le_of_ble_eq_true rfl, Nat.le_of_ble_eq_true rfl⟩, (hts (.static yX5_holds) (List.mem_of_getElem? (i := 2) rfl)), trivial⟩ ⟨wU_blind, fun U hU hW => ⟨rfl, trivial⟩⟩ rfl rfl hl.1 rfl (lv_room (Nat.le_of_ble_eq_true rfl)) dX4_firstOutside_16 ⟨Nat.zero_le _, Nat.zero_le _⟩) hS (fun q _ h => h.elim) (fun q h => h.elim) (fun r_3 uu t H_3 locs_3 ht hvm hw hB hz1 hk1 hS => ?_)
        have hP := hP.same hk1
        have hR := hR.same hk1
        obtain rfl : r_3 = (hldI x (nI bb)) := hw
        refine lv_if_eq (tgt := 46) hx hb dX4_firstOutside_19 (by decide) (fun c_4 => ?_) (fun c_4 => ?_)
        · refine lv_iload_n hx hb dX4_firstOutside_46 rfl (lv_at hl 1 rfl) ?_
          exact W.iret (v := (nI bb)) hx hb hr (fun t ht hW => ⟨⟨_, (), rfl, (by show _ = _; rw [← hres, foS, if_pos c_4]), trivial⟩, hS.F ht⟩) hS.2.2 dX4_firstOutside_47
        · refine lv_iload_n hx hb dX4_firstOutside_22 rfl (lv_at hl 1 rfl) ?_
          refine lv_iconst (v := 1) hx hb dX4_firstOutside_23 (by decide) ?_
          refine lv_iadd hx hb dX4_firstOutside_24 ?_
          rw [show nI bb + 1 = nI (bb + 1) from nI_1 _]
          refine lv_aload_n hx hb dX4_firstOutside_25 rfl (lv_at hl 2 rfl) ?_
          refine w_get (C := RX4) (T := TX4) (N := 4) (ci := 4) (v := .int (nI nb)) hx hb hts hin4 hown hK hP 0 (by decide) rfl rfl 0 (by decide) (hts (.fieldLink RX4 9 "MixedBlocks$State" "blocks" "I") (List.mem_of_getElem? (i := 1) rfl)) (fun _ h9 => h9) rfl dX4_firstOutside_26 ?_
          refine lv_icmp_ge (tgt := 38) hx hb dX4_firstOutside_29 (by decide) (fun c_5 => ?_) (fun c_5 => ?_)
          · have n_5 : ¬ bb + 1 < nb := Nat.not_lt.mpr ((nI_leI (a := nb) (b := bb + 1) (by omega) (by omega)).mp c_5)
            refine lv_iconst (v := 0) hx hb dX4_firstOutside_38 (by decide) ?_
            refine lv_istore_n (lv' := [(3, .int 0), (4, .int (nI i)), (0, .ref ((g 0))), (1, .int x), (2, .int (nI b))]) hx hb dX4_firstOutside_39 rfl hl (by decide) rfl (fun ls hl => ?_)
            refine lv_iinc (v := (nI (i + 1))) (lv' := [(4, .int (nI (i + 1))), (3, .int 0), (0, .ref ((g 0))), (1, .int x), (2, .int (nI b))]) hx hb dX4_firstOutside_40 hl (k := 1) rfl (nI_1 _) (by decide) rfl (fun ls hl => ?_)
            refine lv_goto (tgt := 5) hx hb dX4_firstOutside_43 (by decide) ?_
            have hres2 : foS nb x k 0 = foS nb x nb b := by rw [← hres, foS, if_neg c_4, if_neg n_5]
            exact ih (i + 1) 0 _ _ ls (by omega) (by omega) hres2 hP hR hS (lv_sub hl [0, 1, 2, 3, 4] rfl)
          · have n_5 : bb + 1 < nb := Nat.lt_of_not_le (fun z => c_5 ((nI_leI (a := nb) (b := bb + 1) (by omega) (by omega)).mpr z))
            refine lv_iload_n hx hb dX4_firstOutside_32 rfl (lv_at hl 1 rfl) ?_
            refine lv_iconst (v := 1) hx hb dX4_firstOutside_33 (by decide) ?_
            refine lv_iadd hx hb dX4_firstOutside_34 ?_
            rw [show nI bb + 1 = nI (bb + 1) from nI_1 _]
            refine lv_goto (tgt := 39) hx hb dX4_firstOutside_35 (by decide) ?_
            refine lv_istore_n (lv' := [(3, .int (nI (bb + 1))), (4, .int (nI i)), (0, .ref ((g 0))), (1, .int x), (2, .int (nI b))]) hx hb dX4_firstOutside_39 rfl hl (by decide) rfl (fun ls hl => ?_)
            refine lv_iinc (v := (nI (i + 1))) (lv' := [(4, .int (nI (i + 1))), (3, .int (nI (bb + 1))), (0, .ref ((g 0))), (1, .int x), (2, .int (nI b))]) hx hb dX4_firstOutside_40 hl (k := 1) rfl (nI_1 _) (by decide) rfl (fun ls hl => ?_)
            refine lv_goto (tgt := 5) hx hb dX4_firstOutside_43 (by decide) ?_
            have hres2 : foS nb x k (bb + 1) = foS nb x nb b := by rw [← hres, foS, if_neg c_4, if_pos n_5]
            exact ih (i + 1) (bb + 1) _ _ ls (by omega) (by omega) hres2 hP hR hS (lv_sub hl [0, 1, 2, 3, 4] rfl)
  exact L5 nb 0 b _ _ ls (Nat.zero_add _) hb2 rfl hP hR hS (lv_sub hl [0, 1, 2, 3, 4] rfl)
set_option maxHeartbeats 4000000 in
set_option maxRecDepth 100000 in
theorem c_X4_mixOf (l : Launch) (E : wE) (g : Nat → Nat) (nb : Nat) (va : Nat → Int32) (se : Int32) (rs : Nat → RR) (kk : Nat) (hkk : kk ≤ 9999) (hnb2 : 2 ≤ nb) (hnb : nb ≤ 12) : Met l yX4_mixOf wsX4_mixOf ({ frames := 2, cells := 0, slots := 0, locals := 100 }) (va_Pc [.ref ((g 0)), .int (nI kk)] (wSd E 12 g wN (stP E g nb va se rs))) (va_Qi (fun (r : Int32) (_ : Unit) => r = mixS nb va kk) (fun _ t => True) wN) 0 0 wN := by
  refine Met.ofW (cc := cX4_mixOf) (maxL := 7) (ret := (some .int)) (by decide) rfl ?_
  intro p e s m args below meth c s₁ B hml hv
  obtain ⟨rfl, ⟨hP, hR⟩, hK, hI, hdg⟩ := hv
  have hx := B.exec
  have hb := B.bytes
  have hr := B.returns
  have hts := atoms_spec (ws := wsX4_mixOf) B.pre
  have hown : s.vm.findClass RX4 = some m.cls := findClass_of_methodNamed B.named
  have hlocks := B.notSynchronized
  have hS : va_S wN s.heap s.heap [] := va_S.rf
  have hin4 : ∀ w ∈ wsX40, w ∈ wsX4_mixOf := by decide +kernel
  have hl := lv_entry ([.ref ((g 0)), .int (nI kk)]) (n := 7) (Nat.le_of_ble_eq_true rfl)
  rw [lg_entry_eq]
  generalize (lg_sl ([.ref ((g 0)), .int (nI kk)]) ++ List.replicate (7 - (lg_sl ([.ref ((g 0)), .int (nI kk)])).length) Slot.unset).toArray = ls at hl ⊢
  have hl : lv_has ls 7 [(0, .ref ((g 0))), (1, .int (nI kk))] := hl
  obtain ⟨tD, hZD, hTD⟩ := hdg
  refine lv_iload_n hx hb dX4_mixOf_0 rfl (lv_at hl 1 rfl) ?_
  refine lv_sipush (v := 7919) hx hb dX4_mixOf_1 (by decide) ?_
  refine lv_imul hx hb dX4_mixOf_4 ?_
  rw [show (nI kk) * 7919 = nI (kk * 7919) from pk_mul _ _]
  refine lv_bipush (v := 17) hx hb dX4_mixOf_5 (by decide) ?_
  refine lv_iadd hx hb dX4_mixOf_7 ?_
  rw [show (nI (kk * 7919)) + 17 = nI ((kk * 7919) + 17) from nI_add _ _]
  refine lv_sipush (v := 30269) hx hb dX4_mixOf_8 (by decide) ?_
  refine lv_irem hx hb dX4_mixOf_11 (by decide) ?_
  rw [show (nI ((kk * 7919) + 17)) - (nI ((kk * 7919) + 17)) / 30269 * 30269 = nI (((kk * 7919) + 17) % 30269) from pk_rem (a := ((kk * 7919) + 17)) (d := 30269) (by omega) (by omega) (by omega)]
  refine lv_istore_n (lv' := [(2, .int (nI (((kk * 7919) + 17) % 30269))), (0, .ref ((g 0))), (1, .int (nI kk))]) hx hb dX4_mixOf_12 rfl hl (by decide) rfl (fun ls hl => ?_)
  refine va_getsN hx hb hZD hS hown (va_Nw.use (wNest_tab nf_X4_58) (hK.2 _ nf_X4_58)) (fun _ h9 => h9) dX4_mixOf_13 ?_
  refine lv_iload_n hx hb dX4_mixOf_16 rfl (lv_at hl 0 rfl) ?_
  refine lv_bipush (v := 15) hx hb dX4_mixOf_17 (by decide) ?_
  refine lv_iand hx hb dX4_mixOf_19 ?_
  rw [show (nI (((kk * 7919) + 17) % 30269)) &&& 15 = nI ((((kk * 7919) + 17) % 30269) % 16) from pk_andN (n := (((kk * 7919) + 17) % 30269)) (by omega) 4 (by decide)]
  refine va_ti (v := .int (nI (degN ((((kk * 7919) + 17) % 30269) % 16)))) hx hb hTD hS (vp_in_nI (by omega) (by decide)) (by rw [nI_clamp (by omega)]) dX4_mixOf_20 ?_
  refine lv_aload_n hx hb dX4_mixOf_21 rfl (lv_at hl 1 rfl) ?_
  refine w_get (C := RX4) (T := TX4) (N := 4) (ci := 4) (v := .int (nI nb)) hx hb hts hin4 hown hK hP 0 (by decide) rfl rfl 0 (by decide) (hts (.fieldLink RX4 9 "MixedBlocks$State" "blocks" "I") (List.mem_of_getElem? (i := 1) rfl)) (fun _ h9 => h9) rfl dX4_mixOf_22 ?_
  have hdl := degN_le (((kk * 7919 + 17) % 30269) % 16)
  refine va_mmin hx hb (hml.trans hl.1.symm) hown (hts (.methodLink RX4 61 Lib.Math.min.name) (List.mem_of_getElem? (i := 2) rfl)) (hts (.static Lib.Math.min.name) (List.mem_of_getElem? (i := 3) rfl)) (hts (.initialized "java/lang/Math") (List.mem_of_getElem? (i := 4) rfl)) (hts (.code Lib.Math.min.name Lib.Math.min.code 2 (some .int)) (List.mem_of_getElem? (i := 5) rfl)) (Nat.le_of_ble_eq_true rfl) (Nat.le_of_ble_eq_true rfl) (Nat.zero_le _) (Nat.zero_le _) dX4_mixOf_25 ?_
  rw [minI (by omega) (by omega)]
  refine lv_istore_n (lv' := [(3, .int (nI (if nb < degN (((kk * 7919 + 17) % 30269) % 16) then nb else degN (((kk * 7919 + 17) % 30269) % 16)))), (2, .int (nI (((kk * 7919) + 17) % 30269))), (0, .ref ((g 0))), (1, .int (nI kk))]) hx hb dX4_mixOf_28 rfl hl (by decide) rfl (fun ls hl => ?_)
  refine lv_iconst (v := 0) hx hb dX4_mixOf_29 (by decide) ?_
  refine lv_istore (lv' := [(4, .int 0), (3, .int (nI (if nb < degN (((kk * 7919 + 17) % 30269) % 16) then nb else degN (((kk * 7919 + 17) % 30269) % 16)))), (2, .int (nI (((kk * 7919) + 17) % 30269))), (0, .ref ((g 0))), (1, .int (nI kk))]) hx hb dX4_mixOf_30 hl (by decide) rfl (fun ls hl => ?_)
  refine lv_iconst (v := 0) hx hb dX4_mixOf_32 (by decide) ?_
  refine lv_istore (lv' := [(5, .int 0), (4, .int 0), (3, .int (nI (if nb < degN (((kk * 7919 + 17) % 30269) % 16) then nb else degN (((kk * 7919 + 17) % 30269) % 16)))), (2, .int (nI (((kk * 7919) + 17) % 30269))), (0, .ref ((g 0))), (1, .int (nI kk))]) hx hb dX4_mixOf_33 hl (by decide) rfl (fun ls hl => ?_)
  have hdg1 : (if nb < degN (((kk * 7919 + 17) % 30269) % 16) then nb else degN (((kk * 7919 + 17) % 30269) % 16)) ≤ 12 := by split <;> omega
  generalize hdgn : (if nb < degN (((kk * 7919 + 17) % 30269) % 16) then nb else degN (((kk * 7919 + 17) % 30269) % 16)) = dn at hl hdg1 ⊢
  have L35 : ∀ (k : Nat) (i : Nat) (q : Nat × Int32) (H : Heap) (locs : List Loc) (ls : Array Slot), i + k = dn → q.1 < 30269 → (itr (fun (_ : Nat) q => stepM nb va q) k i q).2 = mixS nb va kk → wP E 3 g (stF E g nb va se) H → stR E g rs H → va_S wN s.heap H locs → lv_has ls 7 [(5, .int (nI i)), (4, .int q.2), (3, .int (nI dn)), (2, .int (nI q.1)), (0, .ref ((g 0))), (1, .int (nI kk))] → W p l e (headSpec wsX4_mixOf ({ frames := 2, cells := 0, slots := 0, locals := 100 })).room s m ([.ref ((g 0)), .int (nI kk)] : List Value).toArray below meth c H locs 0 0 (MQ below (va_Qi (fun (r : Int32) (_ : Unit) => r = mixS nb va kk) (fun _ t => True) wN) ([.ref ((g 0)), .int (nI kk)] : List Value).toArray s 0 0 wN) (F0 m 35 ls []) := by
    intro k
    induction k with
    | zero =>
      intro i q H locs ls hi hq1 hres hP hR hS hl
      refine lv_iload hx hb dX4_mixOf_35 (lv_at hl 0 rfl) ?_
      refine lv_iload_n hx hb dX4_mixOf_37 rfl (lv_at hl 2 rfl) ?_
      refine lv_icmp_ge (tgt := 100) hx hb dX4_mixOf_38 (by decide) (fun c_1 => ?_) (fun c_1 => ?_)
      · have n_1 : dn ≤ i := (nI_leI (a := dn) (b := i) (by omega) (by omega)).mp c_1
        refine lv_iload hx hb dX4_mixOf_100 (lv_at hl 1 rfl) ?_
        exact W.iret (v := q.2) hx hb hr (fun t ht hW => ⟨⟨_, (), rfl, hres, trivial⟩, hS.F ht⟩) hS.2.2 dX4_mixOf_102
      · have n_1 : ¬ dn ≤ i := fun z => c_1 ((nI_leI (a := dn) (b := i) (by omega) (by omega)).mpr z)
        exfalso
        omega
    | succ k ih =>
      intro i q H locs ls hi hq1 hres hP hR hS hl
      refine lv_iload hx hb dX4_mixOf_35 (lv_at hl 0 rfl) ?_
      refine lv_iload_n hx hb dX4_mixOf_37 rfl (lv_at hl 2 rfl) ?_
      refine lv_icmp_ge (tgt := 100) hx hb dX4_mixOf_38 (by decide) (fun c_2 => ?_) (fun c_2 => ?_)
      · have n_2 : dn ≤ i := (nI_leI (a := dn) (b := i) (by omega) (by omega)).mp c_2
        exfalso
        omega
      · have n_2 : ¬ dn ≤ i := fun z => c_2 ((nI_leI (a := dn) (b := i) (by omega) (by omega)).mpr z)
        refine lv_aload_n hx hb dX4_mixOf_41 rfl (lv_at hl 4 rfl) ?_
        refine w_get (C := RX4) (T := TX4) (N := 4) (ci := 4) (v := .int (nI nb)) hx hb hts hin4 hown hK hP 0 (by decide) rfl rfl 0 (by decide) (hts (.fieldLink RX4 9 "MixedBlocks$State" "blocks" "I") (List.mem_of_getElem? (i := 1) rfl)) (fun _ h9 => h9) rfl dX4_mixOf_42 ?_
        refine lv_if_le (tgt := 100) hx hb dX4_mixOf_45 (by decide) (fun c_3 => ?_) (fun c_3 => ?_)
        · exact absurd c_3 (nI_nle (by omega) (by omega))
        · refine lv_iload_n hx hb dX4_mixOf_48 rfl (lv_at hl 3 rfl) ?_
          refine lv_sipush (v := 171) hx hb dX4_mixOf_49 (by decide) ?_
          refine lv_imul hx hb dX4_mixOf_52 ?_
          rw [show (nI q.1) * 171 = nI (q.1 * 171) from pk_mul _ _]
          refine lv_bipush (v := 11) hx hb dX4_mixOf_53 (by decide) ?_
          refine lv_iadd hx hb dX4_mixOf_55 ?_
          rw [show (nI (q.1 * 171)) + 11 = nI ((q.1 * 171) + 11) from nI_add _ _]
          refine lv_sipush (v := 30269) hx hb dX4_mixOf_56 (by decide) ?_
          refine lv_irem hx hb dX4_mixOf_59 (by decide) ?_
          rw [show (nI ((q.1 * 171) + 11)) - (nI ((q.1 * 171) + 11)) / 30269 * 30269 = nI (((q.1 * 171) + 11) % 30269) from pk_rem (a := ((q.1 * 171) + 11)) (d := 30269) (by omega) (by omega) (by omega)]
          refine lv_istore_n (lv' := [(2, .int (nI (((q.1 * 171) + 11) % 30269))), (5, .int (nI i)), (4, .int q.2), (3, .int (nI dn)), (0, .ref ((g 0))), (1, .int (nI kk))]) hx hb dX4_mixOf_60 rfl hl (by decide) rfl (fun ls hl => ?_)
          refine lv_aload_n hx hb dX4_mixOf_61 rfl (lv_at hl 4 rfl) ?_
          refine lv_iload hx hb dX4_mixOf_62 (lv_at hl 2 rfl) ?_
          refine lv_iload_n hx hb dX4_mixOf_64 rfl (lv_at hl 0 rfl) ?_
          refine lv_aload_n hx hb dX4_mixOf_65 rfl (lv_at hl 4 rfl) ?_
          refine w_get (C := RX4) (T := TX4) (N := 4) (ci := 4) (v := .int (nI nb)) hx hb hts hin4 hown hK hP 0 (by decide) rfl rfl 0 (by decide) (hts (.fieldLink RX4 9 "MixedBlocks$State" "blocks" "I") (List.mem_of_getElem? (i := 1) rfl)) (fun _ h9 => h9) rfl dX4_mixOf_66 ?_
          refine lv_irem hx hb dX4_mixOf_69 (nI_ne0 (by omega) (by omega)) ?_
          rw [show (nI (((q.1 * 171) + 11) % 30269)) - (nI (((q.1 * 171) + 11) % 30269)) / (nI nb) * (nI nb) = nI ((((q.1 * 171) + 11) % 30269) % nb) from pk_rem (a := (((q.1 * 171) + 11) % 30269)) (d := nb) (by omega) (by omega) (by omega)]
          refine va_calli (va_runV (As := [.int q.2, .int (nI ((((q.1 * 171) + 11) % 30269) % nb))]) (rest := []) ⟨hx, hb, hml, hown, hts⟩ (c_X4_firstOutside l E g nb va se rs q.2 ((((q.1 * 171) + 11) % 30269) % nb) (Nat.mod_lt _ (by omega)) (by omega)) (cwV 2 hts gX4_mixOf_X4_firstOutside rfl rfl rfl (by decide +kernel) ⟨Nat.le_of_ble_eq_true rfl, Nat.le_of_ble_eq_true rfl⟩) ⟨wS.blind, (w_recv hK hP 0 (by decide) rfl (ci := 4) rfl), fun U hU hW => wS.go ⟨hP, hR⟩ hK hI hU hW⟩ rfl rfl hl.1 rfl (lv_room (Nat.le_of_ble_eq_true rfl)) dX4_mixOf_70 ⟨Nat.zero_le _, Nat.zero_le _⟩) hS (fun q _ h => h.elim) (fun q h => h.elim) (fun r_4 uu t H_4 locs_4 ht hvm hw hB hz1 hk1 hS => ?_)
          have hP := hP.same hk1
          have hR := hR.same hk1
          obtain rfl : r_4 = (nI (foS nb q.2 nb (((q.1 * 171 + 11) % 30269) % nb))) := hw
          refine lv_istore (lv' := [(6, .int ((nI (foS nb q.2 nb (((q.1 * 171 + 11) % 30269) % nb))))), (2, .int (nI (((q.1 * 171) + 11) % 30269))), (5, .int (nI i)), (4, .int q.2), (3, .int (nI dn)), (0, .ref ((g 0))), (1, .int (nI kk))]) hx hb dX4_mixOf_73 hl (by decide) rfl (fun ls hl => ?_)
          refine lv_iload hx hb dX4_mixOf_75 (lv_at hl 3 rfl) ?_
          refine lv_iconst (v := 1) hx hb dX4_mixOf_77 (by decide) ?_
          refine lv_iload hx hb dX4_mixOf_78 (lv_at hl 0 rfl) ?_
          refine lv_ishl hx hb dX4_mixOf_80 ?_
          refine lv_aload_n hx hb dX4_mixOf_81 rfl (lv_at hl 5 rfl) ?_
          refine lv_iload hx hb dX4_mixOf_82 (lv_at hl 0 rfl) ?_
          refine va_calli (va_runV (As := [.int ((nI (foS nb q.2 nb (((q.1 * 171 + 11) % 30269) % nb))))]) (rest := [.int (((1 : Int32) <<< ((nI (foS nb q.2 nb (((q.1 * 171 + 11) % 30269) % nb))) &&& 31))), .int q.2]) ⟨hx, hb, hml, hown, hts⟩ (c_X4_valueAt l E g nb va se rs (foS nb q.2 nb (((q.1 * 171 + 11) % 30269) % nb)) (Nat.lt_of_lt_of_le (foS_lt _ _ (Nat.mod_lt _ (by omega))) hnb)) (cwV 1 hts gX4_mixOf_X4_valueAt rfl rfl rfl (by decide +kernel) ⟨Nat.le_of_ble_eq_true rfl, Nat.le_of_ble_eq_true rfl⟩) ⟨wS.blind, (w_recv hK hP 0 (by decide) rfl (ci := 4) rfl), fun U hU hW => wS.go ⟨hP, hR⟩ hK hI hU hW⟩ rfl rfl hl.1 rfl (lv_room (Nat.le_of_ble_eq_true rfl)) dX4_mixOf_84 ⟨Nat.zero_le _, Nat.zero_le _⟩) hS (fun q _ h => h.elim) (fun q h => h.elim) (fun r_5 uu t H_5 locs_5 ht hvm hw hB hz1 hk1 hS => ?_)
          have hP := hP.same hk1
          have hR := hR.same hk1
          obtain rfl : r_5 = (va (foS nb q.2 nb (((q.1 * 171 + 11) % 30269) % nb))) := hw
          refine lv_bipush (v := 12) hx hb dX4_mixOf_87 (by decide) ?_
          refine lv_ishl hx hb dX4_mixOf_89 ?_
          refine lv_ior hx hb dX4_mixOf_90 ?_
          refine lv_ixor hx hb dX4_mixOf_91 ?_
          refine lv_istore (lv' := [(4, .int ((q.2 ^^^ (((1 : Int32) <<< ((nI (foS nb q.2 nb (((q.1 * 171 + 11) % 30269) % nb))) &&& 31)) ||| ((va (foS nb q.2 nb (((q.1 * 171 + 11) % 30269) % nb))) <<< ((12 : Int32) &&& 31)))))), (6, .int ((nI (foS nb q.2 nb (((q.1 * 171 + 11) % 30269) % nb))))), (2, .int (nI (((q.1 * 171) + 11) % 30269))), (5, .int (nI i)), (3, .int (nI dn)), (0, .ref ((g 0))), (1, .int (nI kk))]) hx hb dX4_mixOf_92 hl (by decide) rfl (fun ls hl => ?_)
          refine lv_iinc (v := (nI (i + 1))) (lv' := [(5, .int (nI (i + 1))), (4, .int ((q.2 ^^^ (((1 : Int32) <<< ((nI (foS nb q.2 nb (((q.1 * 171 + 11) % 30269) % nb))) &&& 31)) ||| ((va (foS nb q.2 nb (((q.1 * 171 + 11) % 30269) % nb))) <<< ((12 : Int32) &&& 31)))))), (6, .int ((nI (foS nb q.2 nb (((q.1 * 171 + 11) % 30269) % nb))))), (2, .int (nI (((q.1 * 171) + 11) % 30269))), (3, .int (nI dn)), (0, .ref ((g 0))), (1, .int (nI kk))]) hx hb dX4_mixOf_94 hl (k := 3) rfl (nI_1 _) (by decide) rfl (fun ls hl => ?_)
          refine lv_goto (tgt := 35) hx hb dX4_mixOf_97 (by decide) ?_
          exact ih (i + 1) (stepM nb va q) _ _ ls (by omega) (Nat.mod_lt _ (by decide)) (by rw [← hres, itr_s]) hP hR hS (lv_sub hl [0, 1, 4, 3, 5, 6] rfl)
  exact L35 dn 0 (((kk * 7919 + 17) % 30269), 0) _ _ ls (Nat.zero_add _) (Nat.mod_lt _ (by decide)) (by rw [← hdgn]; rfl) hP hR hS (lv_sub hl [0, 1, 2, 3, 4, 5] rfl)

set_option maxHeartbeats 4000000 in
set_option maxRecDepth 100000 in
theorem c_X6_save (l : Launch) (E : wE) (g : Nat → Nat) (f : Nat → Int32) (th : Int32) (aa sv : Nat → Int32) (sm : Nat) (tx : Nat → Int32) (ln : Nat) (ro : Nat → Int32) (ai : Nat) (wr : Bool) (dg : Int64) (hsm : sm ≤ 6) : Met l yX6_save wsX6_save ({ frames := 0, cells := 0, slots := 0, locals := 0 }) (va_Pc [.ref ((g 0))] (wS E 6 g (wP E 6 g (moF E g th f aa sv sm tx ln ro ai wr dg)))) (va_Qv (fun (_ : Unit) => True) (fun _ t => ∃ sv2 : Nat → Int32, wP E 6 g (moF E g th f aa sv2 ((if sm < 6 then sm else 5) + 1) tx ln ro ai wr dg) (t.heap) ∧ (∀ j, j < 104 → sv2 (104 * (if sm < 6 then sm else 5) + j) = f j) ∧ ∀ j, j < 104 * (if sm < 6 then sm else 5) → sv2 j = if sm < 6 then sv j else sv (104 + j)) (wF 6 g)) 0 0 (wF 6 g) := by
  refine Met.ofW (cc := cX6_save) (maxL := 2) (ret := none) (by decide) rfl ?_
  intro p e s m args below meth c s₁ B hml hv
  obtain ⟨rfl, hP, hK, hI⟩ := hv
  have hx := B.exec
  have hb := B.bytes
  have hr := B.returns
  have hts := atoms_spec (ws := wsX6_save) B.pre
  have hown : s.vm.findClass RX6 = some m.cls := findClass_of_methodNamed B.named
  have hlocks := B.notSynchronized
  have hS : va_S (wF 6 g) s.heap s.heap [] := va_S.rf
  have hin6 : ∀ w ∈ wsX60, w ∈ wsX6_save := by decide +kernel
  have hA : ∀ k, k < 6 → (wF 6 g) (g k) := wF_in
  have hl := lv_entry ([.ref ((g 0))]) (n := 2) (Nat.le_of_ble_eq_true rfl)
  rw [lg_entry_eq]
  generalize (lg_sl ([.ref ((g 0))]) ++ List.replicate (2 - (lg_sl ([.ref ((g 0))])).length) Slot.unset).toArray = ls at hl ⊢
  have hl : lv_has ls 2 [(0, .ref ((g 0)))] := hl
  refine lv_aload_n hx hb dX6_save_0 rfl (lv_at hl 0 rfl) ?_
  refine w_get (C := RX6) (T := TX6) (N := 11) (ci := 6) (v := .int (nI sm)) hx hb hts hin6 hown hK hP 0 (by decide) rfl rfl 4 (by decide) (hts (.fieldLink RX6 33 "MixedBlocksModel" "savedMany" "I") (List.mem_of_getElem? (i := 1) rfl)) (fun _ h9 => h9) rfl dX6_save_1 ?_
  refine lv_bipush (v := 6) hx hb dX6_save_4 (by decide) ?_
  refine lv_icmp_ne (tgt := 49) hx hb dX6_save_6 (by decide) (fun c_1 => ?_) (fun c_1 => ?_)
  · have n_1 : ¬ (sm = 6) := fun z => c_1 ((nI_eq (a := sm) (b := 6) (by omega) (by omega)).mpr z)
    refine lv_iconst (v := 0) hx hb dX6_save_49 (by decide) ?_
    refine lv_istore_n (lv' := [(1, .int 0), (0, .ref ((g 0)))]) hx hb dX6_save_50 rfl hl (by decide) rfl (fun ls hl => ?_)
    have hsmU : sm = (if sm < 6 then sm else 5) := by rw [if_pos (by omega)]
    rw [hsmU] at hP
    have hU5 : (if sm < 6 then sm else 5) ≤ 5 := by split <;> omega
    have L51 : ∀ (k2 : Nat) (i2 : Nat) (sv3 : Nat → Int32) (H : Heap) (locs : List Loc) (ls : Array Slot), i2 + k2 = 104 → (∀ j, sv3 j = if 104 * (if sm < 6 then sm else 5) ≤ j ∧ j < 104 * (if sm < 6 then sm else 5) + i2 then f (j - 104 * (if sm < 6 then sm else 5)) else sv j) → wP E 6 g (moF E g th f aa sv3 (if sm < 6 then sm else 5) tx ln ro ai wr dg) H → va_S (wF 6 g) s.heap H locs → lv_has ls 2 [(1, .int (nI i2)), (0, .ref ((g 0)))] → W p l e (headSpec wsX6_save ({ frames := 0, cells := 0, slots := 0, locals := 0 })).room s m ([.ref ((g 0))] : List Value).toArray below meth c H locs 0 0 (MQ below (va_Qv (fun (_ : Unit) => True) (fun _ t => ∃ sv2 : Nat → Int32, wP E 6 g (moF E g th f aa sv2 ((if sm < 6 then sm else 5) + 1) tx ln ro ai wr dg) (t.heap) ∧ (∀ j, j < 104 → sv2 (104 * (if sm < 6 then sm else 5) + j) = f j) ∧ ∀ j, j < 104 * (if sm < 6 then sm else 5) → sv2 j = if sm < 6 then sv j else sv (104 + j)) (wF 6 g)) ([.ref ((g 0))] : List Value).toArray s 0 0 (wF 6 g)) (F0 m 51 ls []) := by
      intro k2
      induction k2 with
      | zero =>
        intro i2 sv3 H locs ls hi2 hsv hP hS hl
        refine lv_iload_n hx hb dX6_save_51 rfl (lv_at hl 0 rfl) ?_
        refine lv_bipush (v := 104) hx hb dX6_save_52 (by decide) ?_
        refine lv_icmp_ge (tgt := 83) hx hb dX6_save_54 (by decide) (fun c_2 => ?_) (fun c_2 => ?_)
        · have n_2 : 104 ≤ i2 := (nI_leI (a := 104) (b := i2) (by omega) (by omega)).mp c_2
          refine lv_aload_n hx hb dX6_save_83 rfl (lv_at hl 1 rfl) ?_
          refine lv_dup hx hb dX6_save_84 rfl ?_
          refine w_get (C := RX6) (T := TX6) (N := 11) (ci := 6) (v := .int (nI (if sm < 6 then sm else 5))) hx hb hts hin6 hown hK hP 0 (by decide) rfl rfl 4 (by decide) (hts (.fieldLink RX6 33 "MixedBlocksModel" "savedMany" "I") (List.mem_of_getElem? (i := 1) rfl)) (fun _ h9 => h9) rfl dX6_save_85 ?_
          refine lv_iconst (v := 1) hx hb dX6_save_88 (by decide) ?_
          refine lv_iadd hx hb dX6_save_89 ?_
          rw [show (nI (if sm < 6 then sm else 5)) + 1 = nI ((if sm < 6 then sm else 5) + 1) from nI_add (if sm < 6 then sm else 5) 1]
          refine w_put (C := RX6) (T := TX6) (N := 11) (ci := 6) (v := .int (nI ((if sm < 6 then sm else 5) + 1))) (ty := .int) hx hb hts hin6 tyX6 tyX6_ok nmX6 hown hK hP hI hA hS 0 (by decide) rfl rfl 4 (by decide) (hts (.fieldLink RX6 33 "MixedBlocksModel" "savedMany" "I") (List.mem_of_getElem? (i := 1) rfl)) (fun _ h9 => h9) rfl (by decide +kernel) rfl rfl (Nat.le_of_ble_eq_true rfl) dX6_save_90 (moF E g th f aa sv3 ((if sm < 6 then sm else 5) + 1) tx ln ro ai wr dg) rfl mo_ne0 (fun H_3 locs_3 hP hS => ?_)
          rw [show i2 = 104 by omega] at hsv
          exact W.vret hx hb hr (fun t ht hW => ⟨⟨(), rfl, trivial, (by show ∃ sv2 : Nat → Int32, wP E 6 g (moF E g th f aa sv2 ((if sm < 6 then sm else 5) + 1) tx ln ro ai wr dg) t.heap ∧ _ ∧ _; rw [ht]; exact ⟨sv3, hP, fun j hj => by rw [hsv, if_pos (by omega), Nat.add_sub_cancel_left], fun j hj => by rw [hsv, if_neg (by omega), if_pos (by omega)]⟩)⟩, hS.F ht⟩) hS.2.2 dX6_save_93
        · have n_2 : ¬ (104 ≤ i2) := fun z => c_2 ((nI_leI (a := 104) (b := i2) (by omega) (by omega)).mpr z)
          exfalso
          omega
      | succ k2 ihk2 =>
        intro i2 sv3 H locs ls hi2 hsv hP hS hl
        refine lv_iload_n hx hb dX6_save_51 rfl (lv_at hl 0 rfl) ?_
        refine lv_bipush (v := 104) hx hb dX6_save_52 (by decide) ?_
        refine lv_icmp_ge (tgt := 83) hx hb dX6_save_54 (by decide) (fun c_4 => ?_) (fun c_4 => ?_)
        · have n_4 : 104 ≤ i2 := (nI_leI (a := 104) (b := i2) (by omega) (by omega)).mp c_4
          exfalso
          omega
        · have n_4 : ¬ (104 ≤ i2) := fun z => c_4 ((nI_leI (a := 104) (b := i2) (by omega) (by omega)).mpr z)
          refine lv_aload_n hx hb dX6_save_57 rfl (lv_at hl 1 rfl) ?_
          refine w_get (C := RX6) (T := TX6) (N := 11) (ci := 6) (v := .ref ((g 3))) hx hb hts hin6 hown hK hP 0 (by decide) rfl rfl 3 (by decide) (hts (.fieldLink RX6 16 "MixedBlocksModel" "saved" "[I") (List.mem_of_getElem? (i := 2) rfl)) (fun _ h9 => h9) rfl dX6_save_58 ?_
          refine lv_bipush (v := 104) hx hb dX6_save_61 (by decide) ?_
          refine lv_aload_n hx hb dX6_save_63 rfl (lv_at hl 1 rfl) ?_
          refine w_get (C := RX6) (T := TX6) (N := 11) (ci := 6) (v := .int (nI (if sm < 6 then sm else 5))) hx hb hts hin6 hown hK hP 0 (by decide) rfl rfl 4 (by decide) (hts (.fieldLink RX6 33 "MixedBlocksModel" "savedMany" "I") (List.mem_of_getElem? (i := 1) rfl)) (fun _ h9 => h9) rfl dX6_save_64 ?_
          refine lv_imul hx hb dX6_save_67 ?_
          rw [show 104 * (nI (if sm < 6 then sm else 5)) = nI (104 * (if sm < 6 then sm else 5)) from pk_mul 104 (if sm < 6 then sm else 5)]
          refine lv_iload_n hx hb dX6_save_68 rfl (lv_at hl 0 rfl) ?_
          refine lv_iadd hx hb dX6_save_69 ?_
          rw [show (nI (104 * (if sm < 6 then sm else 5))) + (nI i2) = nI ((104 * (if sm < 6 then sm else 5)) + i2) from nI_add (104 * (if sm < 6 then sm else 5)) i2]
          refine lv_aload_n hx hb dX6_save_70 rfl (lv_at hl 1 rfl) ?_
          refine w_get (C := RX6) (T := TX6) (N := 11) (ci := 6) (v := .ref ((g 1))) hx hb hts hin6 hown hK hP 0 (by decide) rfl rfl 1 (by decide) (hts (.fieldLink RX6 7 "MixedBlocksModel" "s" "[I") (List.mem_of_getElem? (i := 3) rfl)) (fun _ h9 => h9) rfl dX6_save_71 ?_
          refine lv_iload_n hx hb dX6_save_74 rfl (lv_at hl 0 rfl) ?_
          refine w_iald hx hb hK hP 1 (by decide) rfl (vp_in_nI (by omega) (by decide)) dX6_save_75 ?_
          rw [nI_clamp (by omega)]
          refine w_iast hx hb hK hP hI hA hS 3 (by decide) rfl (vp_in_nI (by omega) (by decide)) dX6_save_76 (moF E g th f aa (upd sv3 ((104 * (if sm < 6 then sm else 5)) + i2) (f i2)) (if sm < 6 then sm else 5) tx ln ro ai wr dg) (congrArg (fun z : Nat => (Sum.inl (E.2.1, 624, Sum.inl (upd sv3 z (f i2))) : va_E)) (nI_clamp (by omega)).symm) mo_ne3 (fun H_5 locs_5 hP hS => ?_)
          refine lv_iinc (v := (nI (i2 + 1))) (lv' := [(1, .int (nI (i2 + 1))), (0, .ref ((g 0)))]) hx hb dX6_save_77 hl (k := 0) rfl (nI_1 _) (by decide) rfl (fun ls hl => ?_)
          refine lv_goto (tgt := 51) hx hb dX6_save_80 (by decide) ?_
          exact ihk2 (i2 + 1) (upd sv3 ((104 * (if sm < 6 then sm else 5)) + i2) (f i2)) _ _ ls (by omega) (hd_sv hsv) hP hS (lv_sub hl [0, 1] rfl)
    exact L51 104 0 sv _ _ ls rfl (fun j => by rw [if_neg (by omega)]) hP hS (lv_sub hl [0, 1] rfl)
  · have n_1 : sm = 6 := (nI_eq (a := sm) (b := 6) (by omega) (by omega)).mp c_1
    refine lv_iconst (v := 0) hx hb dX6_save_9 (by decide) ?_
    refine lv_istore_n (lv' := [(1, .int 0), (0, .ref ((g 0)))]) hx hb dX6_save_10 rfl hl (by decide) rfl (fun ls hl => ?_)
    rw [← cpA_0 sv 104 sv] at hP
    have L11 : ∀ (k : Nat) (i : Nat) (H : Heap) (locs : List Loc) (ls : Array Slot), i + k = 520 → wP E 6 g (moF E g th f aa (cpA sv 104 sv i) sm tx ln ro ai wr dg) H → va_S (wF 6 g) s.heap H locs → lv_has ls 2 [(1, .int (nI i)), (0, .ref ((g 0)))] → W p l e (headSpec wsX6_save ({ frames := 0, cells := 0, slots := 0, locals := 0 })).room s m ([.ref ((g 0))] : List Value).toArray below meth c H locs 0 0 (MQ below (va_Qv (fun (_ : Unit) => True) (fun _ t => ∃ sv2 : Nat → Int32, wP E 6 g (moF E g th f aa sv2 ((if sm < 6 then sm else 5) + 1) tx ln ro ai wr dg) (t.heap) ∧ (∀ j, j < 104 → sv2 (104 * (if sm < 6 then sm else 5) + j) = f j) ∧ ∀ j, j < 104 * (if sm < 6 then sm else 5) → sv2 j = if sm < 6 then sv j else sv (104 + j)) (wF 6 g)) ([.ref ((g 0))] : List Value).toArray s 0 0 (wF 6 g)) (F0 m 11 ls []) := by
      intro k
      induction k with
      | zero =>
        intro i H locs ls hi hP hS hl
        refine lv_iload_n hx hb dX6_save_11 rfl (lv_at hl 0 rfl) ?_
        refine lv_sipush (v := 520) hx hb dX6_save_12 (by decide) ?_
        refine lv_icmp_ge (tgt := 39) hx hb dX6_save_15 (by decide) (fun c_6 => ?_) (fun c_6 => ?_)
        · have n_6 : 520 ≤ i := (nI_leI (a := 520) (b := i) (by omega) (by omega)).mp c_6
          rw [show i = 520 by omega] at hP
          refine lv_aload_n hx hb dX6_save_39 rfl (lv_at hl 1 rfl) ?_
          refine lv_dup hx hb dX6_save_40 rfl ?_
          refine w_get (C := RX6) (T := TX6) (N := 11) (ci := 6) (v := .int (nI sm)) hx hb hts hin6 hown hK hP 0 (by decide) rfl rfl 4 (by decide) (hts (.fieldLink RX6 33 "MixedBlocksModel" "savedMany" "I") (List.mem_of_getElem? (i := 1) rfl)) (fun _ h9 => h9) rfl dX6_save_41 ?_
          refine lv_iconst (v := 1) hx hb dX6_save_44 (by decide) ?_
          refine lv_isub hx hb dX6_save_45 ?_
          rw [show (nI sm) - 1 = nI (sm - 1) from pk_sub (a := sm) (b := 1) (by omega)]
          refine w_put (C := RX6) (T := TX6) (N := 11) (ci := 6) (v := .int (nI (sm - 1))) (ty := .int) hx hb hts hin6 tyX6 tyX6_ok nmX6 hown hK hP hI hA hS 0 (by decide) rfl rfl 4 (by decide) (hts (.fieldLink RX6 33 "MixedBlocksModel" "savedMany" "I") (List.mem_of_getElem? (i := 1) rfl)) (fun _ h9 => h9) rfl (by decide +kernel) rfl rfl (Nat.le_of_ble_eq_true rfl) dX6_save_46 (moF E g th f aa (cpA sv 104 sv 520) (sm - 1) tx ln ro ai wr dg) rfl mo_ne0 (fun H_7 locs_7 hP hS => ?_)
          refine lv_iconst (v := 0) hx hb dX6_save_49 (by decide) ?_
          refine lv_istore_n (lv' := [(1, .int 0), (0, .ref ((g 0)))]) hx hb dX6_save_50 rfl hl (by decide) rfl (fun ls hl => ?_)
          have hsmU : (sm - 1) = (if sm < 6 then sm else 5) := by rw [if_neg (by omega)]; omega
          rw [hsmU] at hP
          have hU5 : (if sm < 6 then sm else 5) ≤ 5 := by split <;> omega
          have L51 : ∀ (k2 : Nat) (i2 : Nat) (sv3 : Nat → Int32) (H : Heap) (locs : List Loc) (ls : Array Slot), i2 + k2 = 104 → (∀ j, sv3 j = if 104 * (if sm < 6 then sm else 5) ≤ j ∧ j < 104 * (if sm < 6 then sm else 5) + i2 then f (j - 104 * (if sm < 6 then sm else 5)) else (cpA sv 104 sv 520) j) → wP E 6 g (moF E g th f aa sv3 (if sm < 6 then sm else 5) tx ln ro ai wr dg) H → va_S (wF 6 g) s.heap H locs → lv_has ls 2 [(1, .int (nI i2)), (0, .ref ((g 0)))] → W p l e (headSpec wsX6_save ({ frames := 0, cells := 0, slots := 0, locals := 0 })).room s m ([.ref ((g 0))] : List Value).toArray below meth c H locs 0 0 (MQ below (va_Qv (fun (_ : Unit) => True) (fun _ t => ∃ sv2 : Nat → Int32, wP E 6 g (moF E g th f aa sv2 ((if sm < 6 then sm else 5) + 1) tx ln ro ai wr dg) (t.heap) ∧ (∀ j, j < 104 → sv2 (104 * (if sm < 6 then sm else 5) + j) = f j) ∧ ∀ j, j < 104 * (if sm < 6 then sm else 5) → sv2 j = if sm < 6 then sv j else sv (104 + j)) (wF 6 g)) ([.ref ((g 0))] : List Value).toArray s 0 0 (wF 6 g)) (F0 m 51 ls []) := by
            intro k2
            induction k2 with
            | zero =>
              intro i2 sv3 H locs ls hi2 hsv hP hS hl
              refine lv_iload_n hx hb dX6_save_51 rfl (lv_at hl 0 rfl) ?_
              refine lv_bipush (v := 104) hx hb dX6_save_52 (by decide) ?_
              refine lv_icmp_ge (tgt := 83) hx hb dX6_save_54 (by decide) (fun c_8 => ?_) (fun c_8 => ?_)
              · have n_8 : 104 ≤ i2 := (nI_leI (a := 104) (b := i2) (by omega) (by omega)).mp c_8
                refine lv_aload_n hx hb dX6_save_83 rfl (lv_at hl 1 rfl) ?_
                refine lv_dup hx hb dX6_save_84 rfl ?_
                refine w_get (C := RX6) (T := TX6) (N := 11) (ci := 6) (v := .int (nI (if sm < 6 then sm else 5))) hx hb hts hin6 hown hK hP 0 (by decide) rfl rfl 4 (by decide) (hts (.fieldLink RX6 33 "MixedBlocksModel" "savedMany" "I") (List.mem_of_getElem? (i := 1) rfl)) (fun _ h9 => h9) rfl dX6_save_85 ?_
                refine lv_iconst (v := 1) hx hb dX6_save_88 (by decide) ?_
                refine lv_iadd hx hb dX6_save_89 ?_
                rw [show (nI (if sm < 6 then sm else 5)) + 1 = nI ((if sm < 6 then sm else 5) + 1) from nI_add (if sm < 6 then sm else 5) 1]
                refine w_put (C := RX6) (T := TX6) (N := 11) (ci := 6) (v := .int (nI ((if sm < 6 then sm else 5) + 1))) (ty := .int) hx hb hts hin6 tyX6 tyX6_ok nmX6 hown hK hP hI hA hS 0 (by decide) rfl rfl 4 (by decide) (hts (.fieldLink RX6 33 "MixedBlocksModel" "savedMany" "I") (List.mem_of_getElem? (i := 1) rfl)) (fun _ h9 => h9) rfl (by decide +kernel) rfl rfl (Nat.le_of_ble_eq_true rfl) dX6_save_90 (moF E g th f aa sv3 ((if sm < 6 then sm else 5) + 1) tx ln ro ai wr dg) rfl mo_ne0 (fun H_9 locs_9 hP hS => ?_)
                rw [show i2 = 104 by omega] at hsv
                exact W.vret hx hb hr (fun t ht hW => ⟨⟨(), rfl, trivial, (by show ∃ sv2 : Nat → Int32, wP E 6 g (moF E g th f aa sv2 ((if sm < 6 then sm else 5) + 1) tx ln ro ai wr dg) t.heap ∧ _ ∧ _; rw [ht]; exact ⟨sv3, hP, fun j hj => by rw [hsv, if_pos (by omega), Nat.add_sub_cancel_left], fun j hj => by rw [hsv, if_neg (by omega), if_neg (by omega)]; exact cpA_lo (by have := hU5; omega)⟩)⟩, hS.F ht⟩) hS.2.2 dX6_save_93
              · have n_8 : ¬ (104 ≤ i2) := fun z => c_8 ((nI_leI (a := 104) (b := i2) (by omega) (by omega)).mpr z)
                exfalso
                omega
            | succ k2 ihk2 =>
              intro i2 sv3 H locs ls hi2 hsv hP hS hl
              refine lv_iload_n hx hb dX6_save_51 rfl (lv_at hl 0 rfl) ?_
              refine lv_bipush (v := 104) hx hb dX6_save_52 (by decide) ?_
              refine lv_icmp_ge (tgt := 83) hx hb dX6_save_54 (by decide) (fun c_10 => ?_) (fun c_10 => ?_)
              · have n_10 : 104 ≤ i2 := (nI_leI (a := 104) (b := i2) (by omega) (by omega)).mp c_10
                exfalso
                omega
              · have n_10 : ¬ (104 ≤ i2) := fun z => c_10 ((nI_leI (a := 104) (b := i2) (by omega) (by omega)).mpr z)
                refine lv_aload_n hx hb dX6_save_57 rfl (lv_at hl 1 rfl) ?_
                refine w_get (C := RX6) (T := TX6) (N := 11) (ci := 6) (v := .ref ((g 3))) hx hb hts hin6 hown hK hP 0 (by decide) rfl rfl 3 (by decide) (hts (.fieldLink RX6 16 "MixedBlocksModel" "saved" "[I") (List.mem_of_getElem? (i := 2) rfl)) (fun _ h9 => h9) rfl dX6_save_58 ?_
                refine lv_bipush (v := 104) hx hb dX6_save_61 (by decide) ?_
                refine lv_aload_n hx hb dX6_save_63 rfl (lv_at hl 1 rfl) ?_
                refine w_get (C := RX6) (T := TX6) (N := 11) (ci := 6) (v := .int (nI (if sm < 6 then sm else 5))) hx hb hts hin6 hown hK hP 0 (by decide) rfl rfl 4 (by decide) (hts (.fieldLink RX6 33 "MixedBlocksModel" "savedMany" "I") (List.mem_of_getElem? (i := 1) rfl)) (fun _ h9 => h9) rfl dX6_save_64 ?_
                refine lv_imul hx hb dX6_save_67 ?_
                rw [show 104 * (nI (if sm < 6 then sm else 5)) = nI (104 * (if sm < 6 then sm else 5)) from pk_mul 104 (if sm < 6 then sm else 5)]
                refine lv_iload_n hx hb dX6_save_68 rfl (lv_at hl 0 rfl) ?_
                refine lv_iadd hx hb dX6_save_69 ?_
                rw [show (nI (104 * (if sm < 6 then sm else 5))) + (nI i2) = nI ((104 * (if sm < 6 then sm else 5)) + i2) from nI_add (104 * (if sm < 6 then sm else 5)) i2]
                refine lv_aload_n hx hb dX6_save_70 rfl (lv_at hl 1 rfl) ?_
                refine w_get (C := RX6) (T := TX6) (N := 11) (ci := 6) (v := .ref ((g 1))) hx hb hts hin6 hown hK hP 0 (by decide) rfl rfl 1 (by decide) (hts (.fieldLink RX6 7 "MixedBlocksModel" "s" "[I") (List.mem_of_getElem? (i := 3) rfl)) (fun _ h9 => h9) rfl dX6_save_71 ?_
                refine lv_iload_n hx hb dX6_save_74 rfl (lv_at hl 0 rfl) ?_
                refine w_iald hx hb hK hP 1 (by decide) rfl (vp_in_nI (by omega) (by decide)) dX6_save_75 ?_
                rw [nI_clamp (by omega)]
                refine w_iast hx hb hK hP hI hA hS 3 (by decide) rfl (vp_in_nI (by omega) (by decide)) dX6_save_76 (moF E g th f aa (upd sv3 ((104 * (if sm < 6 then sm else 5)) + i2) (f i2)) (if sm < 6 then sm else 5) tx ln ro ai wr dg) (congrArg (fun z : Nat => (Sum.inl (E.2.1, 624, Sum.inl (upd sv3 z (f i2))) : va_E)) (nI_clamp (by omega)).symm) mo_ne3 (fun H_11 locs_11 hP hS => ?_)
                refine lv_iinc (v := (nI (i2 + 1))) (lv' := [(1, .int (nI (i2 + 1))), (0, .ref ((g 0)))]) hx hb dX6_save_77 hl (k := 0) rfl (nI_1 _) (by decide) rfl (fun ls hl => ?_)
                refine lv_goto (tgt := 51) hx hb dX6_save_80 (by decide) ?_
                exact ihk2 (i2 + 1) (upd sv3 ((104 * (if sm < 6 then sm else 5)) + i2) (f i2)) _ _ ls (by omega) (hd_sv hsv) hP hS (lv_sub hl [0, 1] rfl)
          exact L51 104 0 (cpA sv 104 sv 520) _ _ ls rfl (fun j => by rw [if_neg (by omega)]) hP hS (lv_sub hl [0, 1] rfl)
        · have n_6 : ¬ (520 ≤ i) := fun z => c_6 ((nI_leI (a := 520) (b := i) (by omega) (by omega)).mpr z)
          exfalso
          omega
      | succ k ihk =>
        intro i H locs ls hi hP hS hl
        refine lv_iload_n hx hb dX6_save_11 rfl (lv_at hl 0 rfl) ?_
        refine lv_sipush (v := 520) hx hb dX6_save_12 (by decide) ?_
        refine lv_icmp_ge (tgt := 39) hx hb dX6_save_15 (by decide) (fun c_12 => ?_) (fun c_12 => ?_)
        · have n_12 : 520 ≤ i := (nI_leI (a := 520) (b := i) (by omega) (by omega)).mp c_12
          exfalso
          omega
        · have n_12 : ¬ (520 ≤ i) := fun z => c_12 ((nI_leI (a := 520) (b := i) (by omega) (by omega)).mpr z)
          refine lv_aload_n hx hb dX6_save_18 rfl (lv_at hl 1 rfl) ?_
          refine w_get (C := RX6) (T := TX6) (N := 11) (ci := 6) (v := .ref ((g 3))) hx hb hts hin6 hown hK hP 0 (by decide) rfl rfl 3 (by decide) (hts (.fieldLink RX6 16 "MixedBlocksModel" "saved" "[I") (List.mem_of_getElem? (i := 2) rfl)) (fun _ h9 => h9) rfl dX6_save_19 ?_
          refine lv_iload_n hx hb dX6_save_22 rfl (lv_at hl 0 rfl) ?_
          refine lv_aload_n hx hb dX6_save_23 rfl (lv_at hl 1 rfl) ?_
          refine w_get (C := RX6) (T := TX6) (N := 11) (ci := 6) (v := .ref ((g 3))) hx hb hts hin6 hown hK hP 0 (by decide) rfl rfl 3 (by decide) (hts (.fieldLink RX6 16 "MixedBlocksModel" "saved" "[I") (List.mem_of_getElem? (i := 2) rfl)) (fun _ h9 => h9) rfl dX6_save_24 ?_
          refine lv_bipush (v := 104) hx hb dX6_save_27 (by decide) ?_
          refine lv_iload_n hx hb dX6_save_29 rfl (lv_at hl 0 rfl) ?_
          refine lv_iadd hx hb dX6_save_30 ?_
          rw [show 104 + (nI i) = nI (104 + i) from nI_add 104 i]
          refine w_iald hx hb hK hP 3 (by decide) rfl (vp_in_nI (by omega) (by decide)) dX6_save_31 ?_
          rw [nI_clamp (by omega)]
          refine w_iast hx hb hK hP hI hA hS 3 (by decide) rfl (vp_in_nI (by omega) (by decide)) dX6_save_32 (moF E g th f aa (upd (cpA sv 104 sv i) i ((cpA sv 104 sv i) (104 + i))) sm tx ln ro ai wr dg) (congrArg (fun z : Nat => (Sum.inl (E.2.1, 624, Sum.inl (upd (cpA sv 104 sv i) z ((cpA sv 104 sv i) (104 + i)))) : va_E)) (nI_clamp (by omega)).symm) mo_ne3 (fun H_13 locs_13 hP hS => ?_)
          refine lv_iinc (v := (nI (i + 1))) (lv' := [(1, .int (nI (i + 1))), (0, .ref ((g 0)))]) hx hb dX6_save_33 hl (k := 0) rfl (nI_1 _) (by decide) rfl (fun ls hl => ?_)
          refine lv_goto (tgt := 11) hx hb dX6_save_36 (by decide) ?_
          rw [cpA_hi (by omega), cpA_s] at hP
          exact ihk (i + 1) _ _ ls (by omega) hP hS (lv_sub hl [0, 1] rfl)
    exact L11 520 0 _ _ ls rfl hP hS (lv_sub hl [0, 1] rfl)
set_option maxHeartbeats 4000000 in
set_option maxRecDepth 100000 in
theorem c_X6_putAside (l : Launch) (E : wE) (g : Nat → Nat) (f : Nat → Int32) (th : Int32) (aa sv : Nat → Int32) (sm : Nat) (tx : Nat → Int32) (ln : Nat) (ro : Nat → Int32) (ai : Nat) (wr : Bool) (dg : Int64) (u : Nat) (hu3 : u < 3) : Met l yX6_putAside wsX6_putAside ({ frames := 1, cells := 0, slots := 0, locals := 21 }) (va_Pc [.ref ((g 0)), .int (nI u)] (wS E 6 g (wP E 6 g (moF E g th f aa sv sm tx ln ro ai wr dg)))) (va_Qv (fun (_ : Unit) => True) (fun _ t => wP E 6 g (moF E g th f (cpA f (14 + 30 * u) aa 30) sv sm tx ln ro ai wr dg) (t.heap)) (wF 6 g)) 0 0 (wF 6 g) := by
  refine Met.ofW (cc := cX6_putAside) (maxL := 3) (ret := none) (by decide) rfl ?_
  intro p e s m args below meth c s₁ B hml hv
  obtain ⟨rfl, hP, hK, hI⟩ := hv
  have hx := B.exec
  have hb := B.bytes
  have hr := B.returns
  have hts := atoms_spec (ws := wsX6_putAside) B.pre
  have hown : s.vm.findClass RX6 = some m.cls := findClass_of_methodNamed B.named
  have hlocks := B.notSynchronized
  have hS : va_S (wF 6 g) s.heap s.heap [] := va_S.rf
  have hin6 : ∀ w ∈ wsX60, w ∈ wsX6_putAside := by decide +kernel
  have hA : ∀ k, k < 6 → (wF 6 g) (g k) := wF_in
  have hl := lv_entry ([.ref ((g 0)), .int (nI u)]) (n := 3) (Nat.le_of_ble_eq_true rfl)
  rw [lg_entry_eq]
  generalize (lg_sl ([.ref ((g 0)), .int (nI u)]) ++ List.replicate (3 - (lg_sl ([.ref ((g 0)), .int (nI u)])).length) Slot.unset).toArray = ls at hl ⊢
  have hl : lv_has ls 3 [(0, .ref ((g 0))), (1, .int (nI u))] := hl
  refine lv_iconst (v := 0) hx hb dX6_putAside_0 (by decide) ?_
  refine lv_istore_n (lv' := [(2, .int 0), (0, .ref ((g 0))), (1, .int (nI u))]) hx hb dX6_putAside_1 rfl hl (by decide) rfl (fun ls hl => ?_)
  rw [← cpA_0 f (14 + 30 * u) aa] at hP
  have L2 : ∀ (k : Nat) (i : Nat) (H : Heap) (locs : List Loc) (ls : Array Slot), i + k = 30 → wP E 6 g (moF E g th f (cpA f (14 + 30 * u) aa i) sv sm tx ln ro ai wr dg) H → va_S (wF 6 g) s.heap H locs → lv_has ls 3 [(2, .int (nI i)), (0, .ref ((g 0))), (1, .int (nI u))] → W p l e (headSpec wsX6_putAside ({ frames := 1, cells := 0, slots := 0, locals := 21 })).room s m ([.ref ((g 0)), .int (nI u)] : List Value).toArray below meth c H locs 0 0 (MQ below (va_Qv (fun (_ : Unit) => True) (fun _ t => wP E 6 g (moF E g th f (cpA f (14 + 30 * u) aa 30) sv sm tx ln ro ai wr dg) (t.heap)) (wF 6 g)) ([.ref ((g 0)), .int (nI u)] : List Value).toArray s 0 0 (wF 6 g)) (F0 m 2 ls []) := by
    intro k
    induction k with
    | zero =>
      intro i H locs ls hi hP hS hl
      refine lv_iload_n hx hb dX6_putAside_2 rfl (lv_at hl 0 rfl) ?_
      refine lv_bipush (v := 30) hx hb dX6_putAside_3 (by decide) ?_
      refine lv_icmp_ge (tgt := 30) hx hb dX6_putAside_5 (by decide) (fun c_1 => ?_) (fun c_1 => ?_)
      · have n_1 : 30 ≤ i := (nI_leI (a := 30) (b := i) (by omega) (by omega)).mp c_1
        rw [show i = 30 by omega] at hP
        exact W.vret hx hb hr (fun t ht hW => ⟨⟨(), rfl, trivial, (by show wP E 6 g (moF E g th f (cpA f (14 + 30 * u) aa 30) sv sm tx ln ro ai wr dg) (t.heap); rw [ht]; exact hP)⟩, hS.F ht⟩) hS.2.2 dX6_putAside_30
      · have n_1 : ¬ (30 ≤ i) := fun z => c_1 ((nI_leI (a := 30) (b := i) (by omega) (by omega)).mpr z)
        exfalso
        omega
    | succ k ihk =>
      intro i H locs ls hi hP hS hl
      refine lv_iload_n hx hb dX6_putAside_2 rfl (lv_at hl 0 rfl) ?_
      refine lv_bipush (v := 30) hx hb dX6_putAside_3 (by decide) ?_
      refine lv_icmp_ge (tgt := 30) hx hb dX6_putAside_5 (by decide) (fun c_2 => ?_) (fun c_2 => ?_)
      · have n_2 : 30 ≤ i := (nI_leI (a := 30) (b := i) (by omega) (by omega)).mp c_2
        exfalso
        omega
      · have n_2 : ¬ (30 ≤ i) := fun z => c_2 ((nI_leI (a := 30) (b := i) (by omega) (by omega)).mpr z)
        refine lv_aload_n hx hb dX6_putAside_8 rfl (lv_at hl 1 rfl) ?_
        refine w_get (C := RX6) (T := TX6) (N := 11) (ci := 6) (v := .ref ((g 2))) hx hb hts hin6 hown hK hP 0 (by decide) rfl rfl 2 (by decide) (hts (.fieldLink RX6 13 "MixedBlocksModel" "aside" "[I") (List.mem_of_getElem? (i := 1) rfl)) (fun _ h9 => h9) rfl dX6_putAside_9 ?_
        refine lv_iload_n hx hb dX6_putAside_12 rfl (lv_at hl 0 rfl) ?_
        refine lv_aload_n hx hb dX6_putAside_13 rfl (lv_at hl 1 rfl) ?_
        refine w_get (C := RX6) (T := TX6) (N := 11) (ci := 6) (v := .ref ((g 1))) hx hb hts hin6 hown hK hP 0 (by decide) rfl rfl 1 (by decide) (hts (.fieldLink RX6 7 "MixedBlocksModel" "s" "[I") (List.mem_of_getElem? (i := 2) rfl)) (fun _ h9 => h9) rfl dX6_putAside_14 ?_
        refine lv_iload_n hx hb dX6_putAside_17 rfl (lv_at hl 2 rfl) ?_
        refine lv_iload_n hx hb dX6_putAside_18 rfl (lv_at hl 0 rfl) ?_
        refine va_calli (va_runS (As := [.int (nI u), .int (nI i)]) (rest := [.ref ((g 1)), .int (nI i), .ref ((g 2))]) ⟨hx, hb, hml, hown, hts⟩ (c_X6_of l u i) (va_cwS 2 hts gX6_putAside_X6_of rfl rfl rfl (by decide +kernel) ⟨Nat.le_of_ble_eq_true rfl, Nat.le_of_ble_eq_true rfl⟩) ⟨wU_blind, fun U hU hW => ⟨rfl, trivial⟩⟩ rfl rfl hl.1 rfl (lv_room (Nat.le_of_ble_eq_true rfl)) dX6_putAside_19 ⟨Nat.zero_le _, Nat.zero_le _⟩) hS (fun q _ h => h.elim) (fun q h => h.elim) (fun r_3 uu t H_3 locs_3 ht hvm hw hB hz1 hk1 hS => ?_)
        have hP := hP.same hk1
        obtain rfl : r_3 = (nI (14 + 30 * u + i)) := hw
        refine w_iald hx hb hK hP 1 (by decide) rfl (vp_in_nI (by omega) (by decide)) dX6_putAside_22 ?_
        rw [nI_clamp (by omega)]
        refine w_iast hx hb hK hP hI hA hS 2 (by decide) rfl (vp_in_nI (by omega) (by decide)) dX6_putAside_23 (moF E g th f (upd (cpA f (14 + 30 * u) aa i) i (f (14 + 30 * u + i))) sv sm tx ln ro ai wr dg) (congrArg (fun z : Nat => (Sum.inl (E.2.1, 30, Sum.inl (upd (cpA f (14 + 30 * u) aa i) z (f (14 + 30 * u + i)))) : va_E)) (nI_clamp (by omega)).symm) mo_ne2 (fun H_4 locs_4 hP hS => ?_)
        refine lv_iinc (v := (nI (i + 1))) (lv' := [(2, .int (nI (i + 1))), (0, .ref ((g 0))), (1, .int (nI u))]) hx hb dX6_putAside_24 hl (k := 0) rfl (nI_1 _) (by decide) rfl (fun ls hl => ?_)
        refine lv_goto (tgt := 2) hx hb dX6_putAside_27 (by decide) ?_
        rw [cpA_s] at hP
        exact ihk (i + 1) _ _ ls (by omega) hP hS (lv_sub hl [0, 1, 2] rfl)
  exact L2 30 0 _ _ ls rfl hP hS (lv_sub hl [0, 1, 2] rfl)
set_option maxHeartbeats 4000000 in
set_option maxRecDepth 100000 in
theorem c_X6_putBack (l : Launch) (E : wE) (g : Nat → Nat) (f : Nat → Int32) (th : Int32) (aa sv : Nat → Int32) (sm : Nat) (tx : Nat → Int32) (ln : Nat) (ro : Nat → Int32) (ai : Nat) (wr : Bool) (dg : Int64) (u : Nat) (hu3 : u < 3) : Met l yX6_putBack wsX6_putBack ({ frames := 1, cells := 0, slots := 0, locals := 21 }) (va_Pc [.ref ((g 0)), .int (nI u)] (wS E 6 g (wP E 6 g (moF E g th f aa sv sm tx ln ro ai wr dg)))) (va_Qv (fun (_ : Unit) => True) (fun _ t => wP E 6 g (moF E g th (pbF aa (14 + 30 * u) f 30) aa sv sm tx ln ro ai wr dg) (t.heap)) (wF 6 g)) 0 0 (wF 6 g) := by
  refine Met.ofW (cc := cX6_putBack) (maxL := 3) (ret := none) (by decide) rfl ?_
  intro p e s m args below meth c s₁ B hml hv
  obtain ⟨rfl, hP, hK, hI⟩ := hv
  have hx := B.exec
  have hb := B.bytes
  have hr := B.returns
  have hts := atoms_spec (ws := wsX6_putBack) B.pre
  have hown : s.vm.findClass RX6 = some m.cls := findClass_of_methodNamed B.named
  have hlocks := B.notSynchronized
  have hS : va_S (wF 6 g) s.heap s.heap [] := va_S.rf
  have hin6 : ∀ w ∈ wsX60, w ∈ wsX6_putBack := by decide +kernel
  have hA : ∀ k, k < 6 → (wF 6 g) (g k) := wF_in
  have hl := lv_entry ([.ref ((g 0)), .int (nI u)]) (n := 3) (Nat.le_of_ble_eq_true rfl)
  rw [lg_entry_eq]
  generalize (lg_sl ([.ref ((g 0)), .int (nI u)]) ++ List.replicate (3 - (lg_sl ([.ref ((g 0)), .int (nI u)])).length) Slot.unset).toArray = ls at hl ⊢
  have hl : lv_has ls 3 [(0, .ref ((g 0))), (1, .int (nI u))] := hl
  refine lv_iconst (v := 0) hx hb dX6_putBack_0 (by decide) ?_
  refine lv_istore_n (lv' := [(2, .int 0), (0, .ref ((g 0))), (1, .int (nI u))]) hx hb dX6_putBack_1 rfl hl (by decide) rfl (fun ls hl => ?_)
  rw [← pbF_0 aa (14 + 30 * u) f] at hP
  have L2 : ∀ (k : Nat) (i : Nat) (H : Heap) (locs : List Loc) (ls : Array Slot), i + k = 30 → wP E 6 g (moF E g th (pbF aa (14 + 30 * u) f i) aa sv sm tx ln ro ai wr dg) H → va_S (wF 6 g) s.heap H locs → lv_has ls 3 [(2, .int (nI i)), (0, .ref ((g 0))), (1, .int (nI u))] → W p l e (headSpec wsX6_putBack ({ frames := 1, cells := 0, slots := 0, locals := 21 })).room s m ([.ref ((g 0)), .int (nI u)] : List Value).toArray below meth c H locs 0 0 (MQ below (va_Qv (fun (_ : Unit) => True) (fun _ t => wP E 6 g (moF E g th (pbF aa (14 + 30 * u) f 30) aa sv sm tx ln ro ai wr dg) (t.heap)) (wF 6 g)) ([.ref ((g 0)), .int (nI u)] : List Value).toArray s 0 0 (wF 6 g)) (F0 m 2 ls []) := by
    intro k
    induction k with
    | zero =>
      intro i H locs ls hi hP hS hl
      refine lv_iload_n hx hb dX6_putBack_2 rfl (lv_at hl 0 rfl) ?_
      refine lv_bipush (v := 30) hx hb dX6_putBack_3 (by decide) ?_
      refine lv_icmp_ge (tgt := 30) hx hb dX6_putBack_5 (by decide) (fun c_1 => ?_) (fun c_1 => ?_)
      · have n_1 : 30 ≤ i := (nI_leI (a := 30) (b := i) (by omega) (by omega)).mp c_1
        rw [show i = 30 by omega] at hP
        exact W.vret hx hb hr (fun t ht hW => ⟨⟨(), rfl, trivial, (by show wP E 6 g (moF E g th (pbF aa (14 + 30 * u) f 30) aa sv sm tx ln ro ai wr dg) (t.heap); rw [ht]; exact hP)⟩, hS.F ht⟩) hS.2.2 dX6_putBack_30
      · have n_1 : ¬ (30 ≤ i) := fun z => c_1 ((nI_leI (a := 30) (b := i) (by omega) (by omega)).mpr z)
        exfalso
        omega
    | succ k ihk =>
      intro i H locs ls hi hP hS hl
      refine lv_iload_n hx hb dX6_putBack_2 rfl (lv_at hl 0 rfl) ?_
      refine lv_bipush (v := 30) hx hb dX6_putBack_3 (by decide) ?_
      refine lv_icmp_ge (tgt := 30) hx hb dX6_putBack_5 (by decide) (fun c_2 => ?_) (fun c_2 => ?_)
      · have n_2 : 30 ≤ i := (nI_leI (a := 30) (b := i) (by omega) (by omega)).mp c_2
        exfalso
        omega
      · have n_2 : ¬ (30 ≤ i) := fun z => c_2 ((nI_leI (a := 30) (b := i) (by omega) (by omega)).mpr z)
        refine lv_aload_n hx hb dX6_putBack_8 rfl (lv_at hl 1 rfl) ?_
        refine w_get (C := RX6) (T := TX6) (N := 11) (ci := 6) (v := .ref ((g 1))) hx hb hts hin6 hown hK hP 0 (by decide) rfl rfl 1 (by decide) (hts (.fieldLink RX6 7 "MixedBlocksModel" "s" "[I") (List.mem_of_getElem? (i := 1) rfl)) (fun _ h9 => h9) rfl dX6_putBack_9 ?_
        refine lv_iload_n hx hb dX6_putBack_12 rfl (lv_at hl 2 rfl) ?_
        refine lv_iload_n hx hb dX6_putBack_13 rfl (lv_at hl 0 rfl) ?_
        refine va_calli (va_runS (As := [.int (nI u), .int (nI i)]) (rest := [.ref ((g 1))]) ⟨hx, hb, hml, hown, hts⟩ (c_X6_of l u i) (va_cwS 2 hts gX6_putBack_X6_of rfl rfl rfl (by decide +kernel) ⟨Nat.le_of_ble_eq_true rfl, Nat.le_of_ble_eq_true rfl⟩) ⟨wU_blind, fun U hU hW => ⟨rfl, trivial⟩⟩ rfl rfl hl.1 rfl (lv_room (Nat.le_of_ble_eq_true rfl)) dX6_putBack_14 ⟨Nat.zero_le _, Nat.zero_le _⟩) hS (fun q _ h => h.elim) (fun q h => h.elim) (fun r_3 uu t H_3 locs_3 ht hvm hw hB hz1 hk1 hS => ?_)
        have hP := hP.same hk1
        obtain rfl : r_3 = (nI (14 + 30 * u + i)) := hw
        refine lv_aload_n hx hb dX6_putBack_17 rfl (lv_at hl 1 rfl) ?_
        refine w_get (C := RX6) (T := TX6) (N := 11) (ci := 6) (v := .ref ((g 2))) hx hb hts hin6 hown hK hP 0 (by decide) rfl rfl 2 (by decide) (hts (.fieldLink RX6 13 "MixedBlocksModel" "aside" "[I") (List.mem_of_getElem? (i := 2) rfl)) (fun _ h9 => h9) rfl dX6_putBack_18 ?_
        refine lv_iload_n hx hb dX6_putBack_21 rfl (lv_at hl 0 rfl) ?_
        refine w_iald hx hb hK hP 2 (by decide) rfl (vp_in_nI (by omega) (by decide)) dX6_putBack_22 ?_
        rw [nI_clamp (by omega)]
        refine w_iast hx hb hK hP hI hA hS 1 (by decide) rfl (vp_in_nI (by omega) (by decide)) dX6_putBack_23 (moF E g th (upd (pbF aa (14 + 30 * u) f i) (14 + 30 * u + i) (aa i)) aa sv sm tx ln ro ai wr dg) (congrArg (fun z : Nat => (Sum.inl (E.2.1, 104, Sum.inl (upd (pbF aa (14 + 30 * u) f i) z (aa i))) : va_E)) (nI_clamp (by omega)).symm) mo_ne1 (fun H_4 locs_4 hP hS => ?_)
        refine lv_iinc (v := (nI (i + 1))) (lv' := [(2, .int (nI (i + 1))), (0, .ref ((g 0))), (1, .int (nI u))]) hx hb dX6_putBack_24 hl (k := 0) rfl (nI_1 _) (by decide) rfl (fun ls hl => ?_)
        refine lv_goto (tgt := 2) hx hb dX6_putBack_27 (by decide) ?_
        rw [pbF_s] at hP
        exact ihk (i + 1) _ _ ls (by omega) hP hS (lv_sub hl [0, 1, 2] rfl)
  exact L2 30 0 _ _ ls rfl hP hS (lv_sub hl [0, 1, 2] rfl)
set_option maxHeartbeats 4000000 in
set_option maxRecDepth 100000 in
theorem c_X6_digestOne (l : Launch) (E : wE) (g : Nat → Nat) (f : Nat → Int32) (th : Int32) (aa sv : Nat → Int32) (sm : Nat) (tx : Nat → Int32) (ln : Nat) (ro : Nat → Int32) (ai : Nat) (wr : Bool) (dg : Int64) (y : Int64) : Met l yX6_digestOne wsX6_digestOne ({ frames := 0, cells := 0, slots := 0, locals := 0 }) (va_Pc [.ref ((g 0)), .long y] (wS E 6 g (wP E 6 g (moF E g th f aa sv sm tx ln ro ai wr dg)))) (va_Qv (fun (_ : Unit) => True) (fun _ t => wP E 6 g (moF E g th f aa sv sm tx ln ro ai wr (31 * dg + y)) (t.heap)) (wF 6 g)) 0 0 (wF 6 g) := by
  refine Met.ofW (cc := cX6_digestOne) (maxL := 3) (ret := none) (by decide) rfl ?_
  intro p e s m args below meth c s₁ B hml hv
  obtain ⟨rfl, hP, hK, hI⟩ := hv
  have hx := B.exec
  have hb := B.bytes
  have hr := B.returns
  have hts := atoms_spec (ws := wsX6_digestOne) B.pre
  have hown : s.vm.findClass RX6 = some m.cls := findClass_of_methodNamed B.named
  have hlocks := B.notSynchronized
  have hS : va_S (wF 6 g) s.heap s.heap [] := va_S.rf
  have hin6 : ∀ w ∈ wsX60, w ∈ wsX6_digestOne := by decide +kernel
  have hA : ∀ k, k < 6 → (wF 6 g) (g k) := wF_in
  have hl := lv_entry ([.ref ((g 0)), .long y]) (n := 3) (Nat.le_of_ble_eq_true rfl)
  rw [lg_entry_eq]
  generalize (lg_sl ([.ref ((g 0)), .long y]) ++ List.replicate (3 - (lg_sl ([.ref ((g 0)), .long y])).length) Slot.unset).toArray = ls at hl ⊢
  have hl : lv_has ls 3 [(0, .ref ((g 0))), (1, .long y)] := hl
  refine lv_aload_n hx hb dX6_digestOne_0 rfl (lv_at hl 0 rfl) ?_
  refine lv_ldc2 hx hb hown (hts (.constantLong RX6 182 (31)) (List.mem_of_getElem? (i := 1) rfl)) dX6_digestOne_1 ?_
  refine lv_aload_n hx hb dX6_digestOne_4 rfl (lv_at hl 0 rfl) ?_
  refine w_get (C := RX6) (T := TX6) (N := 11) (ci := 6) (v := .long dg) hx hb hts hin6 hown hK hP 0 (by decide) rfl rfl 10 (by decide) (hts (.fieldLink RX6 184 "MixedBlocksModel" "digested" "J") (List.mem_of_getElem? (i := 2) rfl)) (fun _ h9 => h9) rfl dX6_digestOne_5 ?_
  refine lv_lmul hx hb dX6_digestOne_8 ?_
  refine lv_lload_n hx hb dX6_digestOne_9 rfl (lv_at hl 1 rfl) ?_
  refine lv_ladd hx hb dX6_digestOne_10 ?_
  refine w_put (C := RX6) (T := TX6) (N := 11) (ci := 6) (v := .long (((31 * dg) + y))) (ty := .long) hx hb hts hin6 tyX6 tyX6_ok nmX6 hown hK hP hI hA hS 0 (by decide) rfl rfl 10 (by decide) (hts (.fieldLink RX6 184 "MixedBlocksModel" "digested" "J") (List.mem_of_getElem? (i := 2) rfl)) (fun _ h9 => h9) rfl (by decide +kernel) rfl rfl (Nat.le_of_ble_eq_true rfl) dX6_digestOne_11 (moF E g th f aa sv sm tx ln ro ai wr ((31 * dg) + y)) rfl mo_ne0 (fun H_1 locs_1 hP hS => ?_)
  exact W.vret hx hb hr (fun t ht hW => ⟨⟨(), rfl, trivial, (by show wP E 6 g _ t.heap; rw [ht]; exact hP)⟩, hS.F ht⟩) hS.2.2 dX6_digestOne_14
set_option maxHeartbeats 4000000 in
set_option maxRecDepth 100000 in
theorem c_X6_allForget (l : Launch) (E : wE) (g : Nat → Nat) (th : Int32) (sv : Nat → Int32) (sm : Nat) (tx : Nat → Int32) (ln : Nat) (ai : Nat) (wr : Bool) (dg : Int64) (nb : Nat) (va : Nat → Int32) (se : Int32) (rc : Nat → MR)  : Met l yX6_allForget wsX6_allForget ({ frames := 2, cells := 0, slots := 0, locals := 43 }) (va_Pc [.ref ((g 0))] (wS E 6 g (moZ E g th sv sm tx ln ai wr dg nb va se rc))) (va_Qv (fun (_ : Unit) => True) (fun _ t => moZ E g th sv sm tx ln ai wr dg nb va se (mapQ fgM rc 3) (t.heap)) (wF 6 g)) 0 0 (wF 6 g) := by
  refine Met.ofW (cc := cX6_allForget) (maxL := 2) (ret := none) (by decide) rfl ?_
  intro p e s m args below meth c s₁ B hml hv
  obtain ⟨rfl, ⟨aa, ro, rv, hP, hrv⟩, hK, hI⟩ := hv
  have hx := B.exec
  have hb := B.bytes
  have hr := B.returns
  have hts := atoms_spec (ws := wsX6_allForget) B.pre
  have hown : s.vm.findClass RX6 = some m.cls := findClass_of_methodNamed B.named
  have hlocks := B.notSynchronized
  have hS : va_S (wF 6 g) s.heap s.heap [] := va_S.rf
  have hA : ∀ k, k < 6 → (wF 6 g) (g k) := wF_in
  have hl := lv_entry ([.ref ((g 0))]) (n := 2) (Nat.le_of_ble_eq_true rfl)
  rw [lg_entry_eq]
  generalize (lg_sl ([.ref ((g 0))]) ++ List.replicate (2 - (lg_sl ([.ref ((g 0))])).length) Slot.unset).toArray = ls at hl ⊢
  have hl : lv_has ls 2 [(0, .ref ((g 0)))] := hl
  refine lv_iconst (v := 0) hx hb dX6_allForget_0 (by decide) ?_
  refine lv_istore_n (lv' := [(1, .int 0), (0, .ref ((g 0)))]) hx hb dX6_allForget_1 rfl hl (by decide) rfl (fun ls hl => ?_)
  rw [← mapQ_0 fgM rc] at hrv
  have L2 : ∀ (k : Nat) (i : Nat) (rv2 : Nat → Nat → Int32) (H : Heap) (locs : List Loc) (ls : Array Slot), i + k = 3 → (∀ j, j < 3 → rvP (mapQ fgM rc i j) (rv2 j)) → wP E 6 g (moF E g th (mdE nb va se rv2) aa sv sm tx ln ro ai wr dg) H → va_S (wF 6 g) s.heap H locs → lv_has ls 2 [(1, .int (nI i)), (0, .ref ((g 0)))] → W p l e (headSpec wsX6_allForget ({ frames := 2, cells := 0, slots := 0, locals := 43 })).room s m ([.ref ((g 0))] : List Value).toArray below meth c H locs 0 0 (MQ below (va_Qv (fun (_ : Unit) => True) (fun _ t => moZ E g th sv sm tx ln ai wr dg nb va se (mapQ fgM rc 3) (t.heap)) (wF 6 g)) ([.ref ((g 0))] : List Value).toArray s 0 0 (wF 6 g)) (F0 m 2 ls []) := by
    intro k
    induction k with
    | zero =>
      intro i rv2 H locs ls hi hrv2 hP hS hl
      refine lv_iload_n hx hb dX6_allForget_2 rfl (lv_at hl 0 rfl) ?_
      refine lv_iconst (v := 3) hx hb dX6_allForget_3 (by decide) ?_
      refine lv_icmp_ge (tgt := 18) hx hb dX6_allForget_4 (by decide) (fun c_1 => ?_) (fun c_1 => ?_)
      · have n_1 : 3 ≤ i := (nI_leI (a := 3) (b := i) (by omega) (by omega)).mp c_1
        exact W.vret hx hb hr (fun t ht hW => ⟨⟨(), rfl, trivial, (by show moZ E g th sv sm tx ln ai wr dg nb va se (mapQ fgM rc 3) (t.heap); rw [ht, show 3 = i by omega]; exact ⟨_, _, _, hP, hrv2⟩)⟩, hS.F ht⟩) hS.2.2 dX6_allForget_18
      · have n_1 : ¬ (3 ≤ i) := fun z => c_1 ((nI_leI (a := 3) (b := i) (by omega) (by omega)).mpr z)
        exfalso
        omega
    | succ k ihk =>
      intro i rv2 H locs ls hi hrv2 hP hS hl
      refine lv_iload_n hx hb dX6_allForget_2 rfl (lv_at hl 0 rfl) ?_
      refine lv_iconst (v := 3) hx hb dX6_allForget_3 (by decide) ?_
      refine lv_icmp_ge (tgt := 18) hx hb dX6_allForget_4 (by decide) (fun c_2 => ?_) (fun c_2 => ?_)
      · have n_2 : 3 ≤ i := (nI_leI (a := 3) (b := i) (by omega) (by omega)).mp c_2
        exfalso
        omega
      · have n_2 : ¬ (3 ≤ i) := fun z => c_2 ((nI_leI (a := 3) (b := i) (by omega) (by omega)).mpr z)
        refine lv_aload_n hx hb dX6_allForget_7 rfl (lv_at hl 1 rfl) ?_
        refine lv_iload_n hx hb dX6_allForget_8 rfl (lv_at hl 0 rfl) ?_
        have hu3 : i < 3 := by omega
        have hri_3 := hrv2 i hu3
        rw [mapQ_at] at hri_3
        obtain ⟨w_3, hv_3, hw_3, hok_3⟩ := hri_3
        rw [show rv2 = va_up rv2 i (rvE ((rc i).1) ((rc i).2.1) ((rc i).2.2.1) ((rc i).2.2.2.1) ((rc i).2.2.2.2.1) ((rc i).2.2.2.2.2.length) w_3) from by rw [← hv_3, va_up_id]] at hP
        have hkk_3 := hok_3.2.1
        have hll_3 := hok_3.1
        refine va_callv (va_runV (As := [.int (nI i)]) (rest := []) ⟨hx, hb, hml, hown, hts⟩ (c_X6_forgets l E g th aa sv sm tx ln ro ai wr dg nb va se rv2 i ((rc i).1) ((rc i).2.1) ((rc i).2.2.1) ((rc i).2.2.2.1) ((rc i).2.2.2.2.1) ((rc i).2.2.2.2.2) hu3 ) (cwV 1 hts gX6_allForget_X6_forgets rfl rfl rfl (by decide +kernel) ⟨Nat.le_of_ble_eq_true rfl, Nat.le_of_ble_eq_true rfl⟩) ⟨wS.blind, (w_recv hK hP 0 (by decide) rfl (ci := 6) rfl), fun U hU hW => wS.go ⟨_, hP, hw_3, hok_3⟩ hK hI hU hW⟩ rfl rfl hl.1 rfl (lv_room (Nat.le_of_ble_eq_true rfl)) dX6_allForget_9 ⟨Nat.zero_le _, Nat.zero_le _⟩) hS (fun q _ h => h) (fun q h => h) (fun uu t H_4 locs_4 ht hvm hw hB hz1 hk1 hS => ?_)
        rw [ht] at hB
        obtain ⟨w_4, hP, hw_4, hok_4⟩ := hB
        have hP : wP E 6 g (moF E g th (mdE nb va se (va_up rv2 i (rvE ((rc i).1) 0 ((rc i).2.2.1) ((rc i).2.2.2.1) ((rc i).2.2.2.2.1) (([] : List Nat).length) w_4))) aa sv sm tx ln ro ai wr dg) H_4 := hP
        have hkk_4 := hok_4.2.1
        have hrz_5 : ∀ j9, j9 < 3 → rvP ((va_up (mapQ fgM rc i) i ((rc i).1, 0, (rc i).2.2.1, (rc i).2.2.2.1, (rc i).2.2.2.2.1, ([] : List Nat))) j9) ((va_up rv2 i (rvE ((rc i).1) 0 ((rc i).2.2.1) ((rc i).2.2.2.1) ((rc i).2.2.2.2.1) (([] : List Nat).length) w_4)) j9) := rvP_up hrv2 ⟨w_4, rfl, hw_4, hok_4⟩
        refine lv_iinc (v := (nI (i + 1))) (lv' := [(1, .int (nI (i + 1))), (0, .ref ((g 0)))]) hx hb dX6_allForget_12 hl (k := 0) rfl (nI_1 _) (by decide) rfl (fun ls hl => ?_)
        refine lv_goto (tgt := 2) hx hb dX6_allForget_15 (by decide) ?_
        have hrz : ∀ j, j < 3 → rvP (mapQ fgM rc (i + 1) j) ((va_up rv2 i (rvE ((rc i).1) 0 ((rc i).2.2.1) ((rc i).2.2.2.1) ((rc i).2.2.2.2.1) (([] : List Nat).length) w_4)) j) := by rw [← mapQ_s]; exact hrz_5
        exact ihk (i + 1) (va_up rv2 i (rvE ((rc i).1) 0 ((rc i).2.2.1) ((rc i).2.2.2.1) ((rc i).2.2.2.2.1) (([] : List Nat).length) w_4)) _ _ ls (by omega) hrz hP hS (lv_sub hl [0, 1] rfl)
  exact L2 3 0 rv _ _ ls rfl hrv hP hS (lv_sub hl [0, 1] rfl)
set_option maxHeartbeats 4000000 in
set_option maxRecDepth 100000 in
theorem c_X6_sends (l : Launch) (E : wE) (g : Nat → Nat) (th : Int32) (sv : Nat → Int32) (sm : Nat) (tx : Nat → Int32) (ln : Nat) (ai : Nat) (wr : Bool) (dg : Int64) (nb : Nat) (va : Nat → Int32) (se : Int32) (rc : Nat → MR) (k0 : Nat) (hk0 : k0 < 10000) (hnb2 : 2 ≤ nb) (hnb : nb ≤ 12) : Met l yX6_sends wsX6_sends ({ frames := 4, cells := 0, slots := 0, locals := 93 }) (va_Pc [.ref ((g 0)), .int (nI k0)] (wS E 6 g (moZ E g th sv sm tx ln ai wr dg nb va se rc))) (va_Qi (fun (r : Int32) (_ : Unit) => r = sumM (mskM nb k0) rc 3) (fun _ t => moZ E g th sv sm tx ln ai wr dg nb va (se + 1) (mapQ (gotM (mskM nb k0)) rc 3) (t.heap)) (wF 6 g)) 0 0 (wF 6 g) := by
  refine Met.ofW (cc := cX6_sends) (maxL := 4) (ret := (some .int)) (by decide) rfl ?_
  intro p e s m args below meth c s₁ B hml hv
  obtain ⟨rfl, ⟨aa, ro, rv, hP, hrv⟩, hK, hI⟩ := hv
  have hx := B.exec
  have hb := B.bytes
  have hr := B.returns
  have hts := atoms_spec (ws := wsX6_sends) B.pre
  have hown : s.vm.findClass RX6 = some m.cls := findClass_of_methodNamed B.named
  have hlocks := B.notSynchronized
  have hS : va_S (wF 6 g) s.heap s.heap [] := va_S.rf
  have hin6 : ∀ w ∈ wsX60, w ∈ wsX6_sends := by decide +kernel
  have hA : ∀ k, k < 6 → (wF 6 g) (g k) := wF_in
  have hl := lv_entry ([.ref ((g 0)), .int (nI k0)]) (n := 4) (Nat.le_of_ble_eq_true rfl)
  rw [lg_entry_eq]
  generalize (lg_sl ([.ref ((g 0)), .int (nI k0)]) ++ List.replicate (4 - (lg_sl ([.ref ((g 0)), .int (nI k0)])).length) Slot.unset).toArray = ls at hl ⊢
  have hl : lv_has ls 4 [(0, .ref ((g 0))), (1, .int (nI k0))] := hl
  refine lv_iconst (v := 0) hx hb dX6_sends_0 (by decide) ?_
  refine lv_istore_n (lv' := [(2, .int 0), (0, .ref ((g 0))), (1, .int (nI k0))]) hx hb dX6_sends_1 rfl hl (by decide) rfl (fun ls hl => ?_)
  refine lv_iconst (v := 0) hx hb dX6_sends_2 (by decide) ?_
  refine lv_istore_n (lv' := [(3, .int 0), (2, .int 0), (0, .ref ((g 0))), (1, .int (nI k0))]) hx hb dX6_sends_3 rfl hl (by decide) rfl (fun ls hl => ?_)
  rw [← mapQ_0 (gotM (mskM nb k0)) rc] at hrv
  have L4 : ∀ (k : Nat) (i : Nat) (rv2 : Nat → Nat → Int32) (H : Heap) (locs : List Loc) (ls : Array Slot), i + k = 3 → (∀ j, j < 3 → rvP (mapQ (gotM (mskM nb k0)) rc i j) (rv2 j)) → wP E 6 g (moF E g th (mdE nb va se rv2) aa sv sm tx ln ro ai wr dg) H → va_S (wF 6 g) s.heap H locs → lv_has ls 4 [(3, .int (nI i)), (2, .int ((sumM (mskM nb k0) rc i))), (0, .ref ((g 0))), (1, .int (nI k0))] → W p l e (headSpec wsX6_sends ({ frames := 4, cells := 0, slots := 0, locals := 93 })).room s m ([.ref ((g 0)), .int (nI k0)] : List Value).toArray below meth c H locs 0 0 (MQ below (va_Qi (fun (r : Int32) (_ : Unit) => r = sumM (mskM nb k0) rc 3) (fun _ t => moZ E g th sv sm tx ln ai wr dg nb va (se + 1) (mapQ (gotM (mskM nb k0)) rc 3) (t.heap)) (wF 6 g)) ([.ref ((g 0)), .int (nI k0)] : List Value).toArray s 0 0 (wF 6 g)) (F0 m 4 ls []) := by
    intro k
    induction k with
    | zero =>
      intro i rv2 H locs ls hi hrv2 hP hS hl
      refine lv_iload_n hx hb dX6_sends_4 rfl (lv_at hl 0 rfl) ?_
      refine lv_iconst (v := 3) hx hb dX6_sends_5 (by decide) ?_
      refine lv_icmp_ge (tgt := 46) hx hb dX6_sends_6 (by decide) (fun c_1 => ?_) (fun c_1 => ?_)
      · have n_1 : 3 ≤ i := (nI_leI (a := 3) (b := i) (by omega) (by omega)).mp c_1
        refine lv_aload_n hx hb dX6_sends_46 rfl (lv_at hl 2 rfl) ?_
        refine w_get (C := RX6) (T := TX6) (N := 11) (ci := 6) (v := .ref ((g 1))) hx hb hts hin6 hown hK hP 0 (by decide) rfl rfl 1 (by decide) (hts (.fieldLink RX6 7 "MixedBlocksModel" "s" "[I") (List.mem_of_getElem? (i := 1) rfl)) (fun _ h9 => h9) rfl dX6_sends_47 ?_
        refine lv_iconst (v := 1) hx hb dX6_sends_50 (by decide) ?_
        refine lv_dup2_11 hx hb dX6_sends_51 rfl rfl ?_
        refine w_iald hx hb hK hP 1 (by decide) rfl (vp_in_nI (n := 1) (by decide) (by decide)) dX6_sends_52 ?_
        rw [mdE_1]
        refine lv_iconst (v := 1) hx hb dX6_sends_53 (by decide) ?_
        refine lv_iadd hx hb dX6_sends_54 ?_
        refine w_iast hx hb hK hP hI hA hS 1 (by decide) rfl (vp_in_nI (n := 1) (by decide) (by decide)) dX6_sends_55 (moF E g th (upd (mdE nb va se rv2) (1 : Int32).toNatClampNeg (se + 1)) aa sv sm tx ln ro ai wr dg) rfl mo_ne1 (fun H_2 locs_2 hP hS => ?_)
        rw [show (upd (mdE nb va se rv2) (1 : Int32).toNatClampNeg (se + 1)) = (mdE nb va (se + 1) rv2) from mdE_u1] at hP
        refine lv_iload_n hx hb dX6_sends_56 rfl (lv_at hl 1 rfl) ?_
        exact W.iret (v := (sumM (mskM nb k0) rc i)) hx hb hr (fun t ht hW => ⟨⟨_, (), rfl, (by show _ = _; rw [show 3 = i by omega]), (by show moZ E g th sv sm tx ln ai wr dg nb va (se + 1) (mapQ (gotM (mskM nb k0)) rc 3) (t.heap); rw [ht, show 3 = i by omega]; exact ⟨_, _, _, hP, hrv2⟩)⟩, hS.F ht⟩) hS.2.2 dX6_sends_57
      · have n_1 : ¬ (3 ≤ i) := fun z => c_1 ((nI_leI (a := 3) (b := i) (by omega) (by omega)).mpr z)
        exfalso
        omega
    | succ k ihk =>
      intro i rv2 H locs ls hi hrv2 hP hS hl
      refine lv_iload_n hx hb dX6_sends_4 rfl (lv_at hl 0 rfl) ?_
      refine lv_iconst (v := 3) hx hb dX6_sends_5 (by decide) ?_
      refine lv_icmp_ge (tgt := 46) hx hb dX6_sends_6 (by decide) (fun c_3 => ?_) (fun c_3 => ?_)
      · have n_3 : 3 ≤ i := (nI_leI (a := 3) (b := i) (by omega) (by omega)).mp c_3
        exfalso
        omega
      · have n_3 : ¬ (3 ≤ i) := fun z => c_3 ((nI_leI (a := 3) (b := i) (by omega) (by omega)).mpr z)
        have hu3 : i < 3 := by omega
        have hri_4 := hrv2 i hu3
        rw [mapQ_at] at hri_4
        obtain ⟨w_4, hv_4, hw_4, hok_4⟩ := hri_4
        rw [show rv2 = va_up rv2 i (rvE ((rc i).1) ((rc i).2.1) ((rc i).2.2.1) ((rc i).2.2.2.1) ((rc i).2.2.2.2.1) ((rc i).2.2.2.2.2.length) w_4) from by rw [← hv_4, va_up_id]] at hP
        have hkk_4 := hok_4.2.1
        have hll_4 := hok_4.1
        refine lv_iload_n hx hb dX6_sends_9 rfl (lv_at hl 1 rfl) ?_
        refine lv_aload_n hx hb dX6_sends_10 rfl (lv_at hl 2 rfl) ?_
        refine w_get (C := RX6) (T := TX6) (N := 11) (ci := 6) (v := .ref ((g 1))) hx hb hts hin6 hown hK hP 0 (by decide) rfl rfl 1 (by decide) (hts (.fieldLink RX6 7 "MixedBlocksModel" "s" "[I") (List.mem_of_getElem? (i := 1) rfl)) (fun _ h9 => h9) rfl dX6_sends_11 ?_
        refine lv_iload_n hx hb dX6_sends_14 rfl (lv_at hl 0 rfl) ?_
        refine lv_iconst (v := 0) hx hb dX6_sends_15 (by decide) ?_
        refine va_calli (va_runS (As := [.int (nI i), .int 0]) (rest := [.ref ((g 1)), .int ((sumM (mskM nb k0) rc i))]) ⟨hx, hb, hml, hown, hts⟩ (c_X6_of l i 0) (va_cwS 2 hts gX6_sends_X6_of rfl rfl rfl (by decide +kernel) ⟨Nat.le_of_ble_eq_true rfl, Nat.le_of_ble_eq_true rfl⟩) ⟨wU_blind, fun U hU hW => ⟨rfl, trivial⟩⟩ rfl rfl hl.1 rfl (lv_room (Nat.le_of_ble_eq_true rfl)) dX6_sends_16 ⟨Nat.zero_le _, Nat.zero_le _⟩) hS (fun q _ h => h.elim) (fun q h => h.elim) (fun r_5 uu t H_5 locs_5 ht hvm hw hB hz1 hk1 hS => ?_)
        have hP := hP.same hk1
        obtain rfl : r_5 = (nI (14 + 30 * i + 0)) := hw
        refine w_iald hx hb hK hP 1 (by decide) rfl (vp_in_nI (by omega) (by decide)) dX6_sends_19 ?_
        rw [nI_clamp (by omega), md_g0]
        refine lv_iconst (v := 1) hx hb dX6_sends_20 (by decide) ?_
        refine lv_icmp_ne (tgt := 37) hx hb dX6_sends_21 (by decide) (fun c_6 => ?_) (fun c_6 => ?_)
        · refine lv_iconst (v := 0) hx hb dX6_sends_37 (by decide) ?_
          refine lv_iadd hx hb dX6_sends_38 ?_
          refine lv_istore_n (lv' := [(2, .int (((sumM (mskM nb k0) rc i) + 0))), (3, .int (nI i)), (0, .ref ((g 0))), (1, .int (nI k0))]) hx hb dX6_sends_39 rfl hl (by decide) rfl (fun ls hl => ?_)
          refine lv_iinc (v := (nI (i + 1))) (lv' := [(3, .int (nI (i + 1))), (2, .int (((sumM (mskM nb k0) rc i) + 0))), (0, .ref ((g 0))), (1, .int (nI k0))]) hx hb dX6_sends_40 hl (k := 1) rfl (nI_1 _) (by decide) rfl (fun ls hl => ?_)
          refine lv_goto (tgt := 4) hx hb dX6_sends_43 (by decide) ?_
          have hbn := bI_n1 c_6
          rw [sumM_n hbn] at hl
          have hrz : ∀ j, j < 3 → rvP (mapQ (gotM (mskM nb k0)) rc (i + 1) j) ((va_up rv2 i (rvE ((rc i).1) ((rc i).2.1) ((rc i).2.2.1) ((rc i).2.2.2.1) ((rc i).2.2.2.2.1) ((rc i).2.2.2.2.2.length) w_4)) j) := by rw [← mapQ_n (gotM_n hbn)]; exact rvP_id (rc := mapQ (gotM (mskM nb k0)) rc i) hrv2 (by rw [mapQ_at]; exact ⟨w_4, rfl, hw_4, hok_4⟩)
          exact ihk (i + 1) (va_up rv2 i (rvE ((rc i).1) ((rc i).2.1) ((rc i).2.2.1) ((rc i).2.2.2.1) ((rc i).2.2.2.2.1) ((rc i).2.2.2.2.2.length) w_4)) _ _ ls (by omega) hrz hP hS (lv_sub hl [0, 1, 2, 3] rfl)
        · refine lv_aload_n hx hb dX6_sends_24 rfl (lv_at hl 2 rfl) ?_
          refine lv_iload_n hx hb dX6_sends_25 rfl (lv_at hl 0 rfl) ?_
          refine lv_aload_n hx hb dX6_sends_26 rfl (lv_at hl 2 rfl) ?_
          refine lv_iload_n hx hb dX6_sends_27 rfl (lv_at hl 3 rfl) ?_
          refine va_calli (va_runV (As := [.int (nI k0)]) (rest := [.int (nI i), .ref ((g 0)), .int ((sumM (mskM nb k0) rc i))]) ⟨hx, hb, hml, hown, hts⟩ (c_X6_maskOf l E g th aa sv sm tx ln ro ai wr dg nb va se (va_up rv2 i (rvE ((rc i).1) ((rc i).2.1) ((rc i).2.2.1) ((rc i).2.2.2.1) ((rc i).2.2.2.2.1) ((rc i).2.2.2.2.2.length) w_4)) k0 (by omega) hnb2 hnb) (cwV 1 hts gX6_sends_X6_maskOf rfl rfl rfl (by decide +kernel) ⟨Nat.le_of_ble_eq_true rfl, Nat.le_of_ble_eq_true rfl⟩) ⟨wS.blind, (w_recv hK hP 0 (by decide) rfl (ci := 6) rfl), fun U hU hW => wS.go hP hK hI hU hW⟩ rfl rfl hl.1 rfl (lv_room (Nat.le_of_ble_eq_true rfl)) dX6_sends_28 ⟨Nat.zero_le _, Nat.zero_le _⟩) hS (fun q _ h => h.elim) (fun q h => h.elim) (fun r_7 uu t H_7 locs_7 ht hvm hw hB hz1 hk1 hS => ?_)
          have hP := hP.same hk1
          have hml_7 : mskM nb k0 < 4096 := Nat.lt_of_lt_of_le (mskM_lt (by omega) k0) (pow_nb hnb)
          obtain rfl : r_7 = (nI (mskM nb k0)) := hw
          refine va_calli (va_runV (As := [.int (nI i), .int ((nI (mskM nb k0)))]) (rest := [.int ((sumM (mskM nb k0) rc i))]) ⟨hx, hb, hml, hown, hts⟩ (c_X6_gets l E g th aa sv sm tx ln ro ai wr dg nb va se rv2 i ((rc i).1) ((rc i).2.1) ((rc i).2.2.1) ((rc i).2.2.2.1) ((rc i).2.2.2.2.1) ((rc i).2.2.2.2.2) hu3 (mskM nb k0) (by omega)) (cwV 2 hts gX6_sends_X6_gets rfl rfl rfl (by decide +kernel) ⟨Nat.le_of_ble_eq_true rfl, Nat.le_of_ble_eq_true rfl⟩) ⟨wS.blind, (w_recv hK hP 0 (by decide) rfl (ci := 6) rfl), fun U hU hW => wS.go ⟨_, hP, hw_4, hok_4⟩ hK hI hU hW⟩ rfl rfl hl.1 rfl (lv_room (Nat.le_of_ble_eq_true rfl)) dX6_sends_31 ⟨Nat.zero_le _, Nat.zero_le _⟩) hS (fun q _ h => h) (fun q h => h) (fun r_8 uu t H_8 locs_8 ht hvm hw hB hz1 hk1 hS => ?_)
          rw [ht] at hB
          obtain ⟨w_8, hP, hw_8, hok_8⟩ := hB
          have hP : wP E 6 g (moF E g th (mdE nb va se (va_up rv2 i (rvE ((rc i).1) ((getM (mskM nb k0) (((rc i).2.1), ((rc i).2.2.1), ((rc i).2.2.2.1), ((rc i).2.2.2.2.1), ((rc i).2.2.2.2.2))).1) ((getM (mskM nb k0) (((rc i).2.1), ((rc i).2.2.1), ((rc i).2.2.2.1), ((rc i).2.2.2.2.1), ((rc i).2.2.2.2.2))).2.1) ((getM (mskM nb k0) (((rc i).2.1), ((rc i).2.2.1), ((rc i).2.2.2.1), ((rc i).2.2.2.2.1), ((rc i).2.2.2.2.2))).2.2.1) ((getM (mskM nb k0) (((rc i).2.1), ((rc i).2.2.1), ((rc i).2.2.2.1), ((rc i).2.2.2.2.1), ((rc i).2.2.2.2.2))).2.2.2.1) (((getM (mskM nb k0) (((rc i).2.1), ((rc i).2.2.1), ((rc i).2.2.2.1), ((rc i).2.2.2.2.1), ((rc i).2.2.2.2.2))).2.2.2.2).length) w_8))) aa sv sm tx ln ro ai wr dg) H_8 := hP
          have hkk_8 := hok_8.2.1
          obtain rfl : r_8 = (nI (pc (getM (mskM nb k0) (((rc i).2.1), ((rc i).2.2.1), ((rc i).2.2.2.1), ((rc i).2.2.2.2.1), ((rc i).2.2.2.2.2))).1) - nI (pc ((rc i).2.1))) := hw
          refine lv_goto (tgt := 38) hx hb dX6_sends_34 (by decide) ?_
          refine lv_iadd hx hb dX6_sends_38 ?_
          refine lv_istore_n (lv' := [(2, .int (((sumM (mskM nb k0) rc i) + (nI (pc (getM (mskM nb k0) (((rc i).2.1), ((rc i).2.2.1), ((rc i).2.2.2.1), ((rc i).2.2.2.2.1), ((rc i).2.2.2.2.2))).1) - nI (pc ((rc i).2.1)))))), (3, .int (nI i)), (0, .ref ((g 0))), (1, .int (nI k0))]) hx hb dX6_sends_39 rfl hl (by decide) rfl (fun ls hl => ?_)
          refine lv_iinc (v := (nI (i + 1))) (lv' := [(3, .int (nI (i + 1))), (2, .int (((sumM (mskM nb k0) rc i) + (nI (pc (getM (mskM nb k0) (((rc i).2.1), ((rc i).2.2.1), ((rc i).2.2.2.1), ((rc i).2.2.2.2.1), ((rc i).2.2.2.2.2))).1) - nI (pc ((rc i).2.1)))))), (0, .ref ((g 0))), (1, .int (nI k0))]) hx hb dX6_sends_40 hl (k := 1) rfl (nI_1 _) (by decide) rfl (fun ls hl => ?_)
          refine lv_goto (tgt := 4) hx hb dX6_sends_43 (by decide) ?_
          have hby := bI_e1 c_6
          rw [sumM_y hby] at hl
          have hrz : ∀ j, j < 3 → rvP (mapQ (gotM (mskM nb k0)) rc (i + 1) j) ((va_up rv2 i (rvE ((rc i).1) ((getM (mskM nb k0) (((rc i).2.1), ((rc i).2.2.1), ((rc i).2.2.2.1), ((rc i).2.2.2.2.1), ((rc i).2.2.2.2.2))).1) ((getM (mskM nb k0) (((rc i).2.1), ((rc i).2.2.1), ((rc i).2.2.2.1), ((rc i).2.2.2.2.1), ((rc i).2.2.2.2.2))).2.1) ((getM (mskM nb k0) (((rc i).2.1), ((rc i).2.2.1), ((rc i).2.2.2.1), ((rc i).2.2.2.2.1), ((rc i).2.2.2.2.2))).2.2.1) ((getM (mskM nb k0) (((rc i).2.1), ((rc i).2.2.1), ((rc i).2.2.2.1), ((rc i).2.2.2.2.1), ((rc i).2.2.2.2.2))).2.2.2.1) (((getM (mskM nb k0) (((rc i).2.1), ((rc i).2.2.1), ((rc i).2.2.2.1), ((rc i).2.2.2.2.1), ((rc i).2.2.2.2.2))).2.2.2.2).length) w_8)) j) := by rw [← mapQ_s, gotM_y hby]; exact rvP_up hrv2 ⟨w_8, by rw [hby], hw_8, hok_8⟩
          exact ihk (i + 1) (va_up rv2 i (rvE ((rc i).1) ((getM (mskM nb k0) (((rc i).2.1), ((rc i).2.2.1), ((rc i).2.2.2.1), ((rc i).2.2.2.2.1), ((rc i).2.2.2.2.2))).1) ((getM (mskM nb k0) (((rc i).2.1), ((rc i).2.2.1), ((rc i).2.2.2.1), ((rc i).2.2.2.2.1), ((rc i).2.2.2.2.2))).2.1) ((getM (mskM nb k0) (((rc i).2.1), ((rc i).2.2.1), ((rc i).2.2.2.1), ((rc i).2.2.2.2.1), ((rc i).2.2.2.2.2))).2.2.1) ((getM (mskM nb k0) (((rc i).2.1), ((rc i).2.2.1), ((rc i).2.2.2.1), ((rc i).2.2.2.2.1), ((rc i).2.2.2.2.2))).2.2.2.1) (((getM (mskM nb k0) (((rc i).2.1), ((rc i).2.2.1), ((rc i).2.2.2.1), ((rc i).2.2.2.2.1), ((rc i).2.2.2.2.2))).2.2.2.2).length) w_8)) _ _ ls (by omega) hrz hP hS (lv_sub hl [0, 1, 2, 3] rfl)
  exact L4 3 0 rv _ _ ls rfl hrv hP hS (lv_sub hl [0, 1, 2, 3] rfl)
set_option maxHeartbeats 4000000 in
set_option maxRecDepth 100000 in
theorem c_X6_got (l : Launch) (E : wE) (g : Nat → Nat) (th : Int32) (sv : Nat → Int32) (sm : Nat) (tx : Nat → Int32) (ln : Nat) (ai : Nat) (wr : Bool) (dg : Int64) (nb : Nat) (va : Nat → Int32) (se : Int32) (rc : Nat → MR) (u : Nat) (hu3 : u < 3) (k0 j : Nat) (hk0 : k0 < 10000) (hj2 : j < 2) (hnb2 : 2 ≤ nb) (hnb : nb ≤ 12) : Met l yX6_got wsX6_got ({ frames := 4, cells := 0, slots := 0, locals := 93 }) (va_Pc [.ref ((g 0)), .int (nI u), .int (nI k0), .int (nI j)] (wS E 6 g (moZ E g th sv sm tx ln ai wr dg nb va se rc))) (va_Qi (fun (r : Int32) (_ : Unit) => r = (if j = 0 then gtv (mskM nb k0) (rc u) else rnkM (getM (mskM nb k0) (rc u).2))) (fun _ t => moZ E g th sv sm tx ln ai wr dg nb va se rc (t.heap)) (wF 6 g)) 0 0 (wF 6 g) := by
  refine Met.ofW (cc := cX6_got) (maxL := 6) (ret := (some .int)) (by decide) rfl ?_
  intro p e s m args below meth c s₁ B hml hv
  obtain ⟨rfl, ⟨aa, ro, rv, hP, hrv⟩, hK, hI⟩ := hv
  have hx := B.exec
  have hb := B.bytes
  have hr := B.returns
  have hts := atoms_spec (ws := wsX6_got) B.pre
  have hown : s.vm.findClass RX6 = some m.cls := findClass_of_methodNamed B.named
  have hlocks := B.notSynchronized
  have hS : va_S (wF 6 g) s.heap s.heap [] := va_S.rf
  have hA : ∀ k, k < 6 → (wF 6 g) (g k) := wF_in
  have hl := lv_entry ([.ref ((g 0)), .int (nI u), .int (nI k0), .int (nI j)]) (n := 6) (Nat.le_of_ble_eq_true rfl)
  rw [lg_entry_eq]
  generalize (lg_sl ([.ref ((g 0)), .int (nI u), .int (nI k0), .int (nI j)]) ++ List.replicate (6 - (lg_sl ([.ref ((g 0)), .int (nI u), .int (nI k0), .int (nI j)])).length) Slot.unset).toArray = ls at hl ⊢
  have hl : lv_has ls 6 [(0, .ref ((g 0))), (1, .int (nI u)), (2, .int (nI k0)), (3, .int (nI j))] := hl
  have hu3 : u < 3 := by omega
  have hri_1 := hrv u hu3
  obtain ⟨w_1, hv_1, hw_1, hok_1⟩ := hri_1
  rw [show rv = va_up rv u (rvE ((rc u).1) ((rc u).2.1) ((rc u).2.2.1) ((rc u).2.2.2.1) ((rc u).2.2.2.2.1) ((rc u).2.2.2.2.2.length) w_1) from by rw [← hv_1, va_up_id]] at hP
  have hkk_1 := hok_1.2.1
  have hll_1 := hok_1.1
  refine lv_aload_n hx hb dX6_got_0 rfl (lv_at hl 0 rfl) ?_
  refine lv_iload_n hx hb dX6_got_1 rfl (lv_at hl 1 rfl) ?_
  refine va_callv (va_runV (As := [.int (nI u)]) (rest := []) ⟨hx, hb, hml, hown, hts⟩ (c_X6_putAside l E g (mdE nb va se (va_up rv u (rvE ((rc u).1) ((rc u).2.1) ((rc u).2.2.1) ((rc u).2.2.2.1) ((rc u).2.2.2.2.1) ((rc u).2.2.2.2.2.length) w_1))) th aa sv sm tx ln ro ai wr dg u (by omega)) (cwV 1 hts gX6_got_X6_putAside rfl rfl rfl (by decide +kernel) ⟨Nat.le_of_ble_eq_true rfl, Nat.le_of_ble_eq_true rfl⟩) ⟨wS.blind, (w_recv hK hP 0 (by decide) rfl (ci := 6) rfl), fun U hU hW => wS.go hP hK hI hU hW⟩ rfl rfl hl.1 rfl (lv_room (Nat.le_of_ble_eq_true rfl)) dX6_got_2 ⟨Nat.zero_le _, Nat.zero_le _⟩) hS (fun q _ h => h) (fun q h => h) (fun uu t H_2 locs_2 ht hvm hw hB hz1 hk1 hS => ?_)
  rw [ht] at hB
  have hP : wP E 6 g (moF E g th (mdE nb va se (va_up rv u (rvE ((rc u).1) ((rc u).2.1) ((rc u).2.2.1) ((rc u).2.2.2.1) ((rc u).2.2.2.2.1) ((rc u).2.2.2.2.2.length) w_1))) (cpA (mdE nb va se (va_up rv u (rvE ((rc u).1) ((rc u).2.1) ((rc u).2.2.1) ((rc u).2.2.2.1) ((rc u).2.2.2.2.1) ((rc u).2.2.2.2.2.length) w_1))) (14 + 30 * u) aa 30) sv sm tx ln ro ai wr dg) H_2 := hB
  refine lv_aload_n hx hb dX6_got_5 rfl (lv_at hl 0 rfl) ?_
  refine lv_iload_n hx hb dX6_got_6 rfl (lv_at hl 1 rfl) ?_
  refine lv_aload_n hx hb dX6_got_7 rfl (lv_at hl 0 rfl) ?_
  refine lv_iload_n hx hb dX6_got_8 rfl (lv_at hl 2 rfl) ?_
  refine va_calli (va_runV (As := [.int (nI k0)]) (rest := [.int (nI u), .ref ((g 0))]) ⟨hx, hb, hml, hown, hts⟩ (c_X6_maskOf l E g th (cpA (mdE nb va se (va_up rv u (rvE ((rc u).1) ((rc u).2.1) ((rc u).2.2.1) ((rc u).2.2.2.1) ((rc u).2.2.2.2.1) ((rc u).2.2.2.2.2.length) w_1))) (14 + 30 * u) aa 30) sv sm tx ln ro ai wr dg nb va se (va_up rv u (rvE ((rc u).1) ((rc u).2.1) ((rc u).2.2.1) ((rc u).2.2.2.1) ((rc u).2.2.2.2.1) ((rc u).2.2.2.2.2.length) w_1)) k0 (by omega) hnb2 hnb) (cwV 1 hts gX6_got_X6_maskOf rfl rfl rfl (by decide +kernel) ⟨Nat.le_of_ble_eq_true rfl, Nat.le_of_ble_eq_true rfl⟩) ⟨wS.blind, (w_recv hK hP 0 (by decide) rfl (ci := 6) rfl), fun U hU hW => wS.go hP hK hI hU hW⟩ rfl rfl hl.1 rfl (lv_room (Nat.le_of_ble_eq_true rfl)) dX6_got_9 ⟨Nat.zero_le _, Nat.zero_le _⟩) hS (fun q _ h => h.elim) (fun q h => h.elim) (fun r_3 uu t H_3 locs_3 ht hvm hw hB hz1 hk1 hS => ?_)
  have hP := hP.same hk1
  have hml_3 : mskM nb k0 < 4096 := Nat.lt_of_lt_of_le (mskM_lt (by omega) k0) (pow_nb hnb)
  obtain rfl : r_3 = (nI (mskM nb k0)) := hw
  refine va_calli (va_runV (As := [.int (nI u), .int ((nI (mskM nb k0)))]) (rest := []) ⟨hx, hb, hml, hown, hts⟩ (c_X6_gets l E g th (cpA (mdE nb va se (va_up rv u (rvE ((rc u).1) ((rc u).2.1) ((rc u).2.2.1) ((rc u).2.2.2.1) ((rc u).2.2.2.2.1) ((rc u).2.2.2.2.2.length) w_1))) (14 + 30 * u) aa 30) sv sm tx ln ro ai wr dg nb va se rv u ((rc u).1) ((rc u).2.1) ((rc u).2.2.1) ((rc u).2.2.2.1) ((rc u).2.2.2.2.1) ((rc u).2.2.2.2.2) hu3 (mskM nb k0) (by omega)) (cwV 2 hts gX6_got_X6_gets rfl rfl rfl (by decide +kernel) ⟨Nat.le_of_ble_eq_true rfl, Nat.le_of_ble_eq_true rfl⟩) ⟨wS.blind, (w_recv hK hP 0 (by decide) rfl (ci := 6) rfl), fun U hU hW => wS.go ⟨_, hP, hw_1, hok_1⟩ hK hI hU hW⟩ rfl rfl hl.1 rfl (lv_room (Nat.le_of_ble_eq_true rfl)) dX6_got_12 ⟨Nat.zero_le _, Nat.zero_le _⟩) hS (fun q _ h => h) (fun q h => h) (fun r_4 uu t H_4 locs_4 ht hvm hw hB hz1 hk1 hS => ?_)
  rw [ht] at hB
  obtain ⟨w_4, hP, hw_4, hok_4⟩ := hB
  have hP : wP E 6 g (moF E g th (mdE nb va se (va_up rv u (rvE ((rc u).1) ((getM (mskM nb k0) (((rc u).2.1), ((rc u).2.2.1), ((rc u).2.2.2.1), ((rc u).2.2.2.2.1), ((rc u).2.2.2.2.2))).1) ((getM (mskM nb k0) (((rc u).2.1), ((rc u).2.2.1), ((rc u).2.2.2.1), ((rc u).2.2.2.2.1), ((rc u).2.2.2.2.2))).2.1) ((getM (mskM nb k0) (((rc u).2.1), ((rc u).2.2.1), ((rc u).2.2.2.1), ((rc u).2.2.2.2.1), ((rc u).2.2.2.2.2))).2.2.1) ((getM (mskM nb k0) (((rc u).2.1), ((rc u).2.2.1), ((rc u).2.2.2.1), ((rc u).2.2.2.2.1), ((rc u).2.2.2.2.2))).2.2.2.1) (((getM (mskM nb k0) (((rc u).2.1), ((rc u).2.2.1), ((rc u).2.2.2.1), ((rc u).2.2.2.2.1), ((rc u).2.2.2.2.2))).2.2.2.2).length) w_4))) (cpA (mdE nb va se (va_up rv u (rvE ((rc u).1) ((rc u).2.1) ((rc u).2.2.1) ((rc u).2.2.2.1) ((rc u).2.2.2.2.1) ((rc u).2.2.2.2.2.length) w_1))) (14 + 30 * u) aa 30) sv sm tx ln ro ai wr dg) H_4 := hP
  have hkk_4 := hok_4.2.1
  obtain rfl : r_4 = (nI (pc (getM (mskM nb k0) (((rc u).2.1), ((rc u).2.2.1), ((rc u).2.2.2.1), ((rc u).2.2.2.2.1), ((rc u).2.2.2.2.2))).1) - nI (pc ((rc u).2.1))) := hw
  refine lv_istore (lv' := [(4, .int ((nI (pc (getM (mskM nb k0) (((rc u).2.1), ((rc u).2.2.1), ((rc u).2.2.2.1), ((rc u).2.2.2.2.1), ((rc u).2.2.2.2.2))).1) - nI (pc ((rc u).2.1))))), (0, .ref ((g 0))), (1, .int (nI u)), (2, .int (nI k0)), (3, .int (nI j))]) hx hb dX6_got_15 hl (by decide) rfl (fun ls hl => ?_)
  refine lv_aload_n hx hb dX6_got_17 rfl (lv_at hl 1 rfl) ?_
  refine lv_iload_n hx hb dX6_got_18 rfl (lv_at hl 2 rfl) ?_
  refine va_calli (va_runV (As := [.int (nI u)]) (rest := []) ⟨hx, hb, hml, hown, hts⟩ (c_X6_rank l E g th (cpA (mdE nb va se (va_up rv u (rvE ((rc u).1) ((rc u).2.1) ((rc u).2.2.1) ((rc u).2.2.2.1) ((rc u).2.2.2.2.1) ((rc u).2.2.2.2.2.length) w_1))) (14 + 30 * u) aa 30) sv sm tx ln ro ai wr dg nb va se rv u ((rc u).1) ((getM (mskM nb k0) (((rc u).2.1), ((rc u).2.2.1), ((rc u).2.2.2.1), ((rc u).2.2.2.2.1), ((rc u).2.2.2.2.2))).1) ((getM (mskM nb k0) (((rc u).2.1), ((rc u).2.2.1), ((rc u).2.2.2.1), ((rc u).2.2.2.2.1), ((rc u).2.2.2.2.2))).2.1) ((getM (mskM nb k0) (((rc u).2.1), ((rc u).2.2.1), ((rc u).2.2.2.1), ((rc u).2.2.2.2.1), ((rc u).2.2.2.2.2))).2.2.1) ((getM (mskM nb k0) (((rc u).2.1), ((rc u).2.2.1), ((rc u).2.2.2.1), ((rc u).2.2.2.2.1), ((rc u).2.2.2.2.2))).2.2.2.1) ((getM (mskM nb k0) (((rc u).2.1), ((rc u).2.2.1), ((rc u).2.2.2.1), ((rc u).2.2.2.2.1), ((rc u).2.2.2.2.2))).2.2.2.2) hu3 ) (cwV 1 hts gX6_got_X6_rank rfl rfl rfl (by decide +kernel) ⟨Nat.le_of_ble_eq_true rfl, Nat.le_of_ble_eq_true rfl⟩) ⟨wS.blind, (w_recv hK hP 0 (by decide) rfl (ci := 6) rfl), fun U hU hW => wS.go ⟨_, hP, hw_4, hok_4⟩ hK hI hU hW⟩ rfl rfl hl.1 rfl (lv_room (Nat.le_of_ble_eq_true rfl)) dX6_got_19 ⟨Nat.zero_le _, Nat.zero_le _⟩) hS (fun q _ h => h) (fun q h => h) (fun r_5 uu t H_5 locs_5 ht hvm hw hB hz1 hk1 hS => ?_)
  rw [ht] at hB
  obtain ⟨ro_5, w_5, hP, hw_5, hok_5⟩ := hB
  have hP : wP E 6 g (moF E g th (mdE nb va se (va_up rv u (rvE ((rc u).1) ((getM (mskM nb k0) (((rc u).2.1), ((rc u).2.2.1), ((rc u).2.2.2.1), ((rc u).2.2.2.2.1), ((rc u).2.2.2.2.2))).1) ((getM (mskM nb k0) (((rc u).2.1), ((rc u).2.2.1), ((rc u).2.2.2.1), ((rc u).2.2.2.2.1), ((rc u).2.2.2.2.2))).2.1) ((getM (mskM nb k0) (((rc u).2.1), ((rc u).2.2.1), ((rc u).2.2.2.1), ((rc u).2.2.2.2.1), ((rc u).2.2.2.2.2))).2.2.1) ((getM (mskM nb k0) (((rc u).2.1), ((rc u).2.2.1), ((rc u).2.2.2.1), ((rc u).2.2.2.2.1), ((rc u).2.2.2.2.2))).2.2.2.1) (((getM (mskM nb k0) (((rc u).2.1), ((rc u).2.2.1), ((rc u).2.2.2.1), ((rc u).2.2.2.2.1), ((rc u).2.2.2.2.2))).2.2.2.2).length) w_5))) (cpA (mdE nb va se (va_up rv u (rvE ((rc u).1) ((rc u).2.1) ((rc u).2.2.1) ((rc u).2.2.2.1) ((rc u).2.2.2.2.1) ((rc u).2.2.2.2.2.length) w_1))) (14 + 30 * u) aa 30) sv sm tx ln ro_5 ai wr dg) H_5 := hP
  have hkk_5 := hok_5.2.1
  obtain rfl : r_5 = (nI (pc ((getM (mskM nb k0) (((rc u).2.1), ((rc u).2.2.1), ((rc u).2.2.2.1), ((rc u).2.2.2.2.1), ((rc u).2.2.2.2.2))).1) + (redW ((getM (mskM nb k0) (((rc u).2.1), ((rc u).2.2.1), ((rc u).2.2.2.1), ((rc u).2.2.2.2.1), ((rc u).2.2.2.2.2))).2.2.2.2)).length)) := hw
  refine lv_istore (lv' := [(5, .int ((nI (pc ((getM (mskM nb k0) (((rc u).2.1), ((rc u).2.2.1), ((rc u).2.2.2.1), ((rc u).2.2.2.2.1), ((rc u).2.2.2.2.2))).1) + (redW ((getM (mskM nb k0) (((rc u).2.1), ((rc u).2.2.1), ((rc u).2.2.2.1), ((rc u).2.2.2.2.1), ((rc u).2.2.2.2.2))).2.2.2.2)).length)))), (4, .int ((nI (pc (getM (mskM nb k0) (((rc u).2.1), ((rc u).2.2.1), ((rc u).2.2.2.1), ((rc u).2.2.2.2.1), ((rc u).2.2.2.2.2))).1) - nI (pc ((rc u).2.1))))), (0, .ref ((g 0))), (1, .int (nI u)), (2, .int (nI k0)), (3, .int (nI j))]) hx hb dX6_got_22 hl (by decide) rfl (fun ls hl => ?_)
  refine lv_aload_n hx hb dX6_got_24 rfl (lv_at hl 2 rfl) ?_
  refine lv_iload_n hx hb dX6_got_25 rfl (lv_at hl 3 rfl) ?_
  refine va_callv (va_runV (As := [.int (nI u)]) (rest := []) ⟨hx, hb, hml, hown, hts⟩ (c_X6_putBack l E g (mdE nb va se (va_up rv u (rvE ((rc u).1) ((getM (mskM nb k0) (((rc u).2.1), ((rc u).2.2.1), ((rc u).2.2.2.1), ((rc u).2.2.2.2.1), ((rc u).2.2.2.2.2))).1) ((getM (mskM nb k0) (((rc u).2.1), ((rc u).2.2.1), ((rc u).2.2.2.1), ((rc u).2.2.2.2.1), ((rc u).2.2.2.2.2))).2.1) ((getM (mskM nb k0) (((rc u).2.1), ((rc u).2.2.1), ((rc u).2.2.2.1), ((rc u).2.2.2.2.1), ((rc u).2.2.2.2.2))).2.2.1) ((getM (mskM nb k0) (((rc u).2.1), ((rc u).2.2.1), ((rc u).2.2.2.1), ((rc u).2.2.2.2.1), ((rc u).2.2.2.2.2))).2.2.2.1) (((getM (mskM nb k0) (((rc u).2.1), ((rc u).2.2.1), ((rc u).2.2.2.1), ((rc u).2.2.2.2.1), ((rc u).2.2.2.2.2))).2.2.2.2).length) w_5))) th (cpA (mdE nb va se (va_up rv u (rvE ((rc u).1) ((rc u).2.1) ((rc u).2.2.1) ((rc u).2.2.2.1) ((rc u).2.2.2.2.1) ((rc u).2.2.2.2.2.length) w_1))) (14 + 30 * u) aa 30) sv sm tx ln ro_5 ai wr dg u (by omega)) (cwV 1 hts gX6_got_X6_putBack rfl rfl rfl (by decide +kernel) ⟨Nat.le_of_ble_eq_true rfl, Nat.le_of_ble_eq_true rfl⟩) ⟨wS.blind, (w_recv hK hP 0 (by decide) rfl (ci := 6) rfl), fun U hU hW => wS.go hP hK hI hU hW⟩ rfl rfl hl.1 rfl (lv_room (Nat.le_of_ble_eq_true rfl)) dX6_got_26 ⟨Nat.zero_le _, Nat.zero_le _⟩) hS (fun q _ h => h) (fun q h => h) (fun uu t H_6 locs_6 ht hvm hw hB hz1 hk1 hS => ?_)
  rw [ht] at hB
  rw [pb_md] at hB
  have hP : wP E 6 g (moF E g th (mdE nb va se (va_up rv u (fun j => if j < 30 then (cpA (mdE nb va se (va_up rv u (rvE ((rc u).1) ((rc u).2.1) ((rc u).2.2.1) ((rc u).2.2.2.1) ((rc u).2.2.2.2.1) ((rc u).2.2.2.2.2.length) w_1))) (14 + 30 * u) aa 30) j else (rvE ((rc u).1) ((getM (mskM nb k0) (((rc u).2.1), ((rc u).2.2.1), ((rc u).2.2.2.1), ((rc u).2.2.2.2.1), ((rc u).2.2.2.2.2))).1) ((getM (mskM nb k0) (((rc u).2.1), ((rc u).2.2.1), ((rc u).2.2.2.1), ((rc u).2.2.2.2.1), ((rc u).2.2.2.2.2))).2.1) ((getM (mskM nb k0) (((rc u).2.1), ((rc u).2.2.1), ((rc u).2.2.2.1), ((rc u).2.2.2.2.1), ((rc u).2.2.2.2.2))).2.2.1) ((getM (mskM nb k0) (((rc u).2.1), ((rc u).2.2.1), ((rc u).2.2.2.1), ((rc u).2.2.2.2.1), ((rc u).2.2.2.2.2))).2.2.2.1) (((getM (mskM nb k0) (((rc u).2.1), ((rc u).2.2.1), ((rc u).2.2.2.1), ((rc u).2.2.2.2.1), ((rc u).2.2.2.2.2))).2.2.2.2).length) w_5) j))) (cpA (mdE nb va se (va_up rv u (rvE ((rc u).1) ((rc u).2.1) ((rc u).2.2.1) ((rc u).2.2.2.1) ((rc u).2.2.2.2.1) ((rc u).2.2.2.2.2.length) w_1))) (14 + 30 * u) aa 30) sv sm tx ln ro_5 ai wr dg) H_6 := hB
  have hrz_7 : ∀ j9, j9 < 3 → rvP (rc j9) ((va_up rv u (fun j => if j < 30 then (cpA (mdE nb va se (va_up rv u (rvE ((rc u).1) ((rc u).2.1) ((rc u).2.2.1) ((rc u).2.2.2.1) ((rc u).2.2.2.2.1) ((rc u).2.2.2.2.2.length) w_1))) (14 + 30 * u) aa 30) j else (rvE ((rc u).1) ((getM (mskM nb k0) (((rc u).2.1), ((rc u).2.2.1), ((rc u).2.2.2.1), ((rc u).2.2.2.2.1), ((rc u).2.2.2.2.2))).1) ((getM (mskM nb k0) (((rc u).2.1), ((rc u).2.2.1), ((rc u).2.2.2.1), ((rc u).2.2.2.2.1), ((rc u).2.2.2.2.2))).2.1) ((getM (mskM nb k0) (((rc u).2.1), ((rc u).2.2.1), ((rc u).2.2.2.1), ((rc u).2.2.2.2.1), ((rc u).2.2.2.2.2))).2.2.1) ((getM (mskM nb k0) (((rc u).2.1), ((rc u).2.2.1), ((rc u).2.2.2.1), ((rc u).2.2.2.2.1), ((rc u).2.2.2.2.2))).2.2.2.1) (((getM (mskM nb k0) (((rc u).2.1), ((rc u).2.2.1), ((rc u).2.2.2.1), ((rc u).2.2.2.2.1), ((rc u).2.2.2.2.2))).2.2.2.2).length) w_5) j)) j9) := rvP_id hrv (rvP_back (hrv u hu3) (fun j hj => by rw [cpA_lo hj, mdE_g hj, ← hv_1]))
  refine lv_iload_n hx hb dX6_got_29 rfl (lv_at hl 5 rfl) ?_
  refine lv_if_ne (tgt := 38) hx hb dX6_got_30 (by decide) (fun c_8 => ?_) (fun c_8 => ?_)
  · have n_8 : ¬ (j = 0) := fun z => c_8 ((nI_eq (a := j) (b := 0) (by omega) (by omega)).mpr z)
    refine lv_iload hx hb dX6_got_38 (lv_at hl 0 rfl) ?_
    exact W.iret (v := (nI (pc ((getM (mskM nb k0) (((rc u).2.1), ((rc u).2.2.1), ((rc u).2.2.2.1), ((rc u).2.2.2.2.1), ((rc u).2.2.2.2.2))).1) + (redW ((getM (mskM nb k0) (((rc u).2.1), ((rc u).2.2.1), ((rc u).2.2.2.1), ((rc u).2.2.2.2.1), ((rc u).2.2.2.2.2))).2.2.2.2)).length))) hx hb hr (fun t ht hW => ⟨⟨_, (), rfl, (by show _ = _; rw [if_neg n_8]; rfl), (by show moZ E g th sv sm tx ln ai wr dg nb va se rc (t.heap); rw [ht]; exact ⟨_, _, _, hP, hrz_7⟩)⟩, hS.F ht⟩) hS.2.2 dX6_got_40
  · have n_8 : j = 0 := (nI_eq (a := j) (b := 0) (by omega) (by omega)).mp c_8
    refine lv_iload hx hb dX6_got_33 (lv_at hl 1 rfl) ?_
    refine lv_goto (tgt := 40) hx hb dX6_got_35 (by decide) ?_
    exact W.iret (v := (nI (pc (getM (mskM nb k0) (((rc u).2.1), ((rc u).2.2.1), ((rc u).2.2.2.1), ((rc u).2.2.2.2.1), ((rc u).2.2.2.2.2))).1) - nI (pc ((rc u).2.1)))) hx hb hr (fun t ht hW => ⟨⟨_, (), rfl, (by show _ = _; rw [if_pos n_8]; rfl), (by show moZ E g th sv sm tx ln ai wr dg nb va se rc (t.heap); rw [ht]; exact ⟨_, _, _, hP, hrz_7⟩)⟩, hS.F ht⟩) hS.2.2 dX6_got_40

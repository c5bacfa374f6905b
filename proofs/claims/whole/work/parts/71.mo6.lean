theorem inB_c {k : Nat} (h : inB (nI k) 48 57 = false) (hk : k ≤ 126 := by omega) : ¬ (48 ≤ k ∧ k ≤ 57) := fun z => by
  have e9 : inB (nI k) 48 57 = true := inB_t (n := k) (a := 48) (b := 57) rfl rfl rfl z.1 z.2 (by decide)
  rw [e9] at h
  exact absurd h (by decide)
theorem inB_c2 {k : Nat} (h : inB (nI k) 48 57 = true) (hk : k ≤ 126) : 48 ≤ k ∧ k ≤ 57 := by
  obtain ⟨h1, h2⟩ := of_decide_eq_true h
  constructor
  · exact Nat.le_of_not_lt fun z => h1 (nI_lt (b := 48) z (by decide))
  · exact Nat.le_of_not_lt fun z => h2 (nI_lt (a := 57) z (by omega))
set_option maxHeartbeats 4000000 in
set_option maxRecDepth 100000 in
theorem c_X6_number (l : Launch) (E : wE) (g : Nat → Nat) (f : Nat → Int32) (th : Int32) (aa sv : Nat → Int32) (sm : Nat) (tx : Nat → Int32) (ln : Nat) (ro : Nat → Int32) (ai : Nat) (wr : Bool) (dg : Int64) (le : Nat) (cd : Nat → Nat) (hcs : ∀ j, j < ln → cd j ≤ 126) (htx : ∀ j, j < ln → tx j = nI (cd j)) (hln : ln ≤ 60) (hai : ai ≤ ln) (hle : le ≤ 9999) (hwr0 : wr = false) : Met l yX6_number wsX6_number ({ frames := 1, cells := 0, slots := 0, locals := 24 }) (va_Pc [.ref ((g 0)), .int (nI le)] (wS E 6 g (wP E 6 g (moF E g th f aa sv sm tx ln ro ai wr dg)))) (va_Qi (fun (r : Int32) (_ : Unit) => r = nI (nuS cd ln le 4 ai 0 0).2.1) (fun _ t => wP E 6 g (moF E g th f aa sv sm tx ln ro ((nuS cd ln le 4 ai 0 0).1) (nuW le (nuS cd ln le 4 ai 0 0)) dg) (t.heap)) (wF 6 g)) 0 0 (wF 6 g) := by
  refine Met.ofW (cc := cX6_number) (maxL := 7) (ret := (some .int)) (by decide) rfl ?_
  intro p e s m args below meth c s₁ B hml hv
  obtain ⟨rfl, hP, hK, hI⟩ := hv
  have hx := B.exec
  have hb := B.bytes
  have hr := B.returns
  have hts := atoms_spec (ws := wsX6_number) B.pre
  have hown : s.vm.findClass RX6 = some m.cls := findClass_of_methodNamed B.named
  have hlocks := B.notSynchronized
  have hS : va_S (wF 6 g) s.heap s.heap [] := va_S.rf
  have hin6 : ∀ w ∈ wsX60, w ∈ wsX6_number := by decide +kernel
  have hA : ∀ k, k < 6 → (wF 6 g) (g k) := wF_in
  have hl := lv_entry ([.ref ((g 0)), .int (nI le)]) (n := 7) (Nat.le_of_ble_eq_true rfl)
  rw [lg_entry_eq]
  generalize (lg_sl ([.ref ((g 0)), .int (nI le)]) ++ List.replicate (7 - (lg_sl ([.ref ((g 0)), .int (nI le)])).length) Slot.unset).toArray = ls at hl ⊢
  have hl : lv_has ls 7 [(0, .ref ((g 0))), (1, .int (nI le))] := hl
  subst hwr0
  refine lv_iconst (v := 0) hx hb dX6_number_0 (by decide) ?_
  refine lv_istore_n (lv' := [(2, .int 0), (0, .ref ((g 0))), (1, .int (nI le))]) hx hb dX6_number_1 rfl hl (by decide) rfl (fun ls hl => ?_)
  refine lv_iconst (v := 0) hx hb dX6_number_2 (by decide) ?_
  refine lv_istore_n (lv' := [(3, .int 0), (2, .int 0), (0, .ref ((g 0))), (1, .int (nI le))]) hx hb dX6_number_3 rfl hl (by decide) rfl (fun ls hl => ?_)
  refine lv_iconst (v := 1) hx hb dX6_number_4 (by decide) ?_
  refine lv_istore (lv' := [(4, .int 1), (3, .int 0), (2, .int 0), (0, .ref ((g 0))), (1, .int (nI le))]) hx hb dX6_number_5 hl (by decide) rfl (fun ls hl => ?_)
  have L7 : ∀ (k : Nat) (ai2 v d : Nat) (H : Heap) (locs : List Loc) (ls : Array Slot), ai2 ≤ ln → v + 1 ≤ 10 ^ d → d + k = 4 → nuS cd ln le k ai2 v d = (nuS cd ln le 4 ai 0 0) → wP E 6 g (moF E g th f aa sv sm tx ln ro ai2 false dg) H → va_S (wF 6 g) s.heap H locs → lv_has ls 7 [(4, .int 1), (2, .int (nI v)), (3, .int (nI d)), (0, .ref ((g 0))), (1, .int (nI le))] → W p l e (headSpec wsX6_number ({ frames := 1, cells := 0, slots := 0, locals := 24 })).room s m ([.ref ((g 0)), .int (nI le)] : List Value).toArray below meth c H locs 0 0 (MQ below (va_Qi (fun (r : Int32) (_ : Unit) => r = nI (nuS cd ln le 4 ai 0 0).2.1) (fun _ t => wP E 6 g (moF E g th f aa sv sm tx ln ro ((nuS cd ln le 4 ai 0 0).1) (nuW le (nuS cd ln le 4 ai 0 0)) dg) (t.heap)) (wF 6 g)) ([.ref ((g 0)), .int (nI le)] : List Value).toArray s 0 0 (wF 6 g)) (F0 m 7 ls []) := by
    intro k
    induction k with
    | zero =>
      intro ai2 v d H locs ls ha hvd hd hres hP hS hl
      have h10 : (10 : Nat) ^ d ≤ 10 ^ 4 := Nat.pow_le_pow_right (by decide) (by omega)
      have h104 : (10 : Nat) ^ 4 = 10000 := by decide
      refine lv_iload hx hb dX6_number_7 (lv_at hl 0 rfl) ?_
      refine lv_if_eq (tgt := 149) hx hb dX6_number_9 (by decide) (fun c_1 => ?_) (fun c_1 => ?_)
      · exact absurd c_1 (by decide)
      · refine lv_aload_n hx hb dX6_number_12 rfl (lv_at hl 3 rfl) ?_
        refine w_get (C := RX6) (T := TX6) (N := 11) (ci := 6) (v := .int (nI ai2)) hx hb hts hin6 hown hK hP 0 (by decide) rfl rfl 8 (by decide) (hts (.fieldLink RX6 109 "MixedBlocksModel" "at" "I") (List.mem_of_getElem? (i := 1) rfl)) (fun _ h9 => h9) rfl dX6_number_13 ?_
        refine lv_aload_n hx hb dX6_number_16 rfl (lv_at hl 3 rfl) ?_
        refine w_get (C := RX6) (T := TX6) (N := 11) (ci := 6) (v := .int (nI ln)) hx hb hts hin6 hown hK hP 0 (by decide) rfl rfl 6 (by decide) (hts (.fieldLink RX6 106 "MixedBlocksModel" "length" "I") (List.mem_of_getElem? (i := 2) rfl)) (fun _ h9 => h9) rfl dX6_number_17 ?_
        refine lv_icmp_ge (tgt := 35) hx hb dX6_number_20 (by decide) (fun c_2 => ?_) (fun c_2 => ?_)
        · have n_2 : ln ≤ ai2 := (nI_leI (a := ln) (b := ai2) (by omega) (by omega)).mp c_2
          refine lv_iconst (v := 0) hx hb dX6_number_35 (by decide) ?_
          refine lv_istore (lv' := [(5, .int 0), (4, .int 1), (2, .int (nI v)), (3, .int (nI d)), (0, .ref ((g 0))), (1, .int (nI le))]) hx hb dX6_number_36 hl (by decide) rfl (fun ls hl => ?_)
          refine lv_iload hx hb dX6_number_38 (lv_at hl 0 rfl) ?_
          refine lv_bipush (v := 48) hx hb dX6_number_40 (by decide) ?_
          refine lv_bipush (v := 57) hx hb dX6_number_42 (by decide) ?_
          refine va_calli (va_runS (As := [.int 0, .int 48, .int 57]) (rest := []) ⟨hx, hb, hml, hown, hts⟩ (c_X6_in l 0 48 57) (va_cwS 3 hts gX6_number_X6_in rfl rfl rfl (by decide +kernel) ⟨Nat.le_of_ble_eq_true rfl, Nat.le_of_ble_eq_true rfl⟩) ⟨wU_blind, fun U hU hW => ⟨rfl, trivial⟩⟩ rfl rfl hl.1 rfl (lv_room (Nat.le_of_ble_eq_true rfl)) dX6_number_44 ⟨Nat.zero_le _, Nat.zero_le _⟩) hS (fun q _ h => h.elim) (fun q h => h.elim) (fun r_3 uu t H_3 locs_3 ht hvm hw hB hz1 hk1 hS => ?_)
          have hP := hP.same hk1
          obtain rfl : r_3 = (bI (inB 0 48 57)) := hw
          refine lv_if_eq (tgt := 87) hx hb dX6_number_47 (by decide) (fun c_4 => ?_) (fun c_4 => ?_)
          · refine lv_iconst (v := 0) hx hb dX6_number_87 (by decide) ?_
            refine lv_istore (lv' := [(6, .int 0), (5, .int 0), (4, .int 1), (2, .int (nI v)), (3, .int (nI d)), (0, .ref ((g 0))), (1, .int (nI le))]) hx hb dX6_number_88 hl (by decide) rfl (fun ls hl => ?_)
            refine lv_iload hx hb dX6_number_90 (lv_at hl 0 rfl) ?_
            refine lv_if_eq (tgt := 108) hx hb dX6_number_92 (by decide) (fun c_5 => ?_) (fun c_5 => ?_)
            · refine lv_iload_n hx hb dX6_number_108 rfl (lv_at hl 3 rfl) ?_
              refine lv_istore_n (lv' := [(2, .int (nI v)), (6, .int 0), (5, .int 0), (4, .int 1), (3, .int (nI d)), (0, .ref ((g 0))), (1, .int (nI le))]) hx hb dX6_number_109 rfl hl (by decide) rfl (fun ls hl => ?_)
              refine lv_iload_n hx hb dX6_number_110 rfl (lv_at hl 4 rfl) ?_
              refine lv_iload hx hb dX6_number_111 (lv_at hl 1 rfl) ?_
              refine lv_if_eq (tgt := 120) hx hb dX6_number_113 (by decide) (fun c_6 => ?_) (fun c_6 => ?_)
              · refine lv_iconst (v := 0) hx hb dX6_number_120 (by decide) ?_
                refine lv_iadd hx hb dX6_number_121 ?_
                rw [show (nI d) + 0 = nI (d + 0) from nI_add d 0]
                refine lv_istore_n (lv' := [(3, .int (nI (d + 0))), (2, .int (nI v)), (6, .int 0), (5, .int 0), (4, .int 1), (0, .ref ((g 0))), (1, .int (nI le))]) hx hb dX6_number_122 rfl hl (by decide) rfl (fun ls hl => ?_)
                refine lv_aload_n hx hb dX6_number_123 rfl (lv_at hl 5 rfl) ?_
                refine lv_dup hx hb dX6_number_124 rfl ?_
                refine w_get (C := RX6) (T := TX6) (N := 11) (ci := 6) (v := .int (nI ai2)) hx hb hts hin6 hown hK hP 0 (by decide) rfl rfl 8 (by decide) (hts (.fieldLink RX6 109 "MixedBlocksModel" "at" "I") (List.mem_of_getElem? (i := 1) rfl)) (fun _ h9 => h9) rfl dX6_number_125 ?_
                refine lv_iload hx hb dX6_number_128 (lv_at hl 2 rfl) ?_
                refine lv_if_eq (tgt := 137) hx hb dX6_number_130 (by decide) (fun c_7 => ?_) (fun c_7 => ?_)
                · refine lv_iconst (v := 0) hx hb dX6_number_137 (by decide) ?_
                  refine lv_iadd hx hb dX6_number_138 ?_
                  rw [show (nI ai2) + 0 = nI (ai2 + 0) from nI_add ai2 0]
                  refine w_put (C := RX6) (T := TX6) (N := 11) (ci := 6) (v := .int (nI (ai2 + 0))) (ty := .int) hx hb hts hin6 tyX6 tyX6_ok nmX6 hown hK hP hI hA hS 0 (by decide) rfl rfl 8 (by decide) (hts (.fieldLink RX6 109 "MixedBlocksModel" "at" "I") (List.mem_of_getElem? (i := 1) rfl)) (fun _ h9 => h9) rfl (by decide +kernel) rfl rfl (Nat.le_of_ble_eq_true rfl) dX6_number_139 (moF E g th f aa sv sm tx ln ro (ai2 + 0) false dg) rfl mo_ne0 (fun H_8 locs_8 hP hS => ?_)
                  refine lv_iload hx hb dX6_number_142 (lv_at hl 2 rfl) ?_
                  refine lv_istore (lv' := [(4, .int 0), (3, .int (nI (d + 0))), (2, .int (nI v)), (6, .int 0), (5, .int 0), (0, .ref ((g 0))), (1, .int (nI le))]) hx hb dX6_number_144 hl (by decide) rfl (fun ls hl => ?_)
                  refine lv_goto (tgt := 7) hx hb dX6_number_146 (by decide) ?_
                  have hno : nuO cd ln le ai2 v d = false := decide_eq_false (fun z => absurd z.1 (by omega))
                  have hq := hres.symm.trans (nuS_n hno)
                  refine lv_iload hx hb dX6_number_7 (lv_at hl 0 rfl) ?_
                  refine lv_if_eq (tgt := 149) hx hb dX6_number_9 (by decide) (fun c_9 => ?_) (fun c_9 => ?_)
                  · refine lv_aload_n hx hb dX6_number_149 rfl (lv_at hl 5 rfl) ?_
                    refine lv_aload_n hx hb dX6_number_150 rfl (lv_at hl 5 rfl) ?_
                    refine w_get (C := RX6) (T := TX6) (N := 11) (ci := 6) (v := .int ((bI false))) hx hb hts hin6 hown hK hP 0 (by decide) rfl rfl 9 (by decide) (hts (.fieldLink RX6 115 "MixedBlocksModel" "isWrong" "Z") (List.mem_of_getElem? (i := 4) rfl)) (fun _ h9 => h9) rfl dX6_number_151 ?_
                    refine lv_if_ne (tgt := 166) hx hb dX6_number_154 (by decide) (fun c_10 => ?_) (fun c_10 => ?_)
                    · exact absurd rfl c_10
                    · refine lv_iload_n hx hb dX6_number_157 rfl (lv_at hl 1 rfl) ?_
                      refine lv_if_eq (tgt := 166) hx hb dX6_number_158 (by decide) (fun c_11 => ?_) (fun c_11 => ?_)
                      · have n_11 : (d + 0) = 0 := (nI_eq (a := (d + 0)) (b := 0) (by omega) (by omega)).mp c_11
                        refine lv_iconst (v := 1) hx hb dX6_number_166 (by decide) ?_
                        refine lv_goto (tgt := 171) hx hb dX6_number_167 (by decide) ?_
                        refine w_put (C := RX6) (T := TX6) (N := 11) (ci := 6) (v := .int 1) (ty := .boolean) hx hb hts hin6 tyX6 tyX6_ok nmX6 hown hK hP hI hA hS 0 (by decide) rfl rfl 9 (by decide) (hts (.fieldLink RX6 115 "MixedBlocksModel" "isWrong" "Z") (List.mem_of_getElem? (i := 4) rfl)) (fun _ h9 => h9) rfl (by decide +kernel) rfl rfl (Nat.le_of_ble_eq_true rfl) dX6_number_171 (moF E g th f aa sv sm tx ln ro (ai2 + 0) true dg) rfl mo_ne0 (fun H_12 locs_12 hP hS => ?_)
                        refine lv_iload_n hx hb dX6_number_174 rfl (lv_at hl 2 rfl) ?_
                        have hwr : nuW le (nuS cd ln le 4 ai 0 0) = true := by rw [hq]; exact decide_eq_true (by show d = 0 ∨ v < le; omega)
                        exact W.iret (v := (nI v)) hx hb hr (fun t ht hW => ⟨⟨_, (), rfl, (by show _ = _; rw [hq]), (by show wP E 6 g (moF E g th f aa sv sm tx ln ro ((nuS cd ln le 4 ai 0 0).1) (nuW le (nuS cd ln le 4 ai 0 0)) dg) t.heap; rw [ht, hwr, hq]; exact hP)⟩, hS.F ht⟩) hS.2.2 dX6_number_175
                      · have n_11 : ¬ ((d + 0) = 0) := fun z => c_11 ((nI_eq (a := (d + 0)) (b := 0) (by omega) (by omega)).mpr z)
                        refine lv_iload_n hx hb dX6_number_161 rfl (lv_at hl 2 rfl) ?_
                        refine lv_iload_n hx hb dX6_number_162 rfl (lv_at hl 6 rfl) ?_
                        refine lv_icmp_ge (tgt := 170) hx hb dX6_number_163 (by decide) (fun c_13 => ?_) (fun c_13 => ?_)
                        · have n_13 : le ≤ v := (nI_leI (a := le) (b := v) (by omega) (by omega)).mp c_13
                          refine lv_iconst (v := 0) hx hb dX6_number_170 (by decide) ?_
                          refine w_put (C := RX6) (T := TX6) (N := 11) (ci := 6) (v := .int 0) (ty := .boolean) hx hb hts hin6 tyX6 tyX6_ok nmX6 hown hK hP hI hA hS 0 (by decide) rfl rfl 9 (by decide) (hts (.fieldLink RX6 115 "MixedBlocksModel" "isWrong" "Z") (List.mem_of_getElem? (i := 4) rfl)) (fun _ h9 => h9) rfl (by decide +kernel) rfl rfl (Nat.le_of_ble_eq_true rfl) dX6_number_171 (moF E g th f aa sv sm tx ln ro (ai2 + 0) false dg) rfl mo_ne0 (fun H_14 locs_14 hP hS => ?_)
                          refine lv_iload_n hx hb dX6_number_174 rfl (lv_at hl 2 rfl) ?_
                          have hwr : nuW le (nuS cd ln le 4 ai 0 0) = false := by rw [hq]; exact decide_eq_false (by show ¬ (d = 0 ∨ v < le); omega)
                          exact W.iret (v := (nI v)) hx hb hr (fun t ht hW => ⟨⟨_, (), rfl, (by show _ = _; rw [hq]), (by show wP E 6 g (moF E g th f aa sv sm tx ln ro ((nuS cd ln le 4 ai 0 0).1) (nuW le (nuS cd ln le 4 ai 0 0)) dg) t.heap; rw [ht, hwr, hq]; exact hP)⟩, hS.F ht⟩) hS.2.2 dX6_number_175
                        · have n_13 : ¬ (le ≤ v) := fun z => c_13 ((nI_leI (a := le) (b := v) (by omega) (by omega)).mpr z)
                          refine lv_iconst (v := 1) hx hb dX6_number_166 (by decide) ?_
                          refine lv_goto (tgt := 171) hx hb dX6_number_167 (by decide) ?_
                          refine w_put (C := RX6) (T := TX6) (N := 11) (ci := 6) (v := .int 1) (ty := .boolean) hx hb hts hin6 tyX6 tyX6_ok nmX6 hown hK hP hI hA hS 0 (by decide) rfl rfl 9 (by decide) (hts (.fieldLink RX6 115 "MixedBlocksModel" "isWrong" "Z") (List.mem_of_getElem? (i := 4) rfl)) (fun _ h9 => h9) rfl (by decide +kernel) rfl rfl (Nat.le_of_ble_eq_true rfl) dX6_number_171 (moF E g th f aa sv sm tx ln ro (ai2 + 0) true dg) rfl mo_ne0 (fun H_15 locs_15 hP hS => ?_)
                          refine lv_iload_n hx hb dX6_number_174 rfl (lv_at hl 2 rfl) ?_
                          have hwr : nuW le (nuS cd ln le 4 ai 0 0) = true := by rw [hq]; exact decide_eq_true (by show d = 0 ∨ v < le; omega)
                          exact W.iret (v := (nI v)) hx hb hr (fun t ht hW => ⟨⟨_, (), rfl, (by show _ = _; rw [hq]), (by show wP E 6 g (moF E g th f aa sv sm tx ln ro ((nuS cd ln le 4 ai 0 0).1) (nuW le (nuS cd ln le 4 ai 0 0)) dg) t.heap; rw [ht, hwr, hq]; exact hP)⟩, hS.F ht⟩) hS.2.2 dX6_number_175
                  · exact absurd rfl c_9
                · exact absurd rfl c_7
              · exact absurd rfl c_6
            · exact absurd rfl c_5
          · rw [show inB 0 48 57 = false from by decide] at c_4; exact absurd rfl c_4
        · have n_2 : ¬ (ln ≤ ai2) := fun z => c_2 ((nI_leI (a := ln) (b := ai2) (by omega) (by omega)).mpr z)
          refine lv_aload_n hx hb dX6_number_23 rfl (lv_at hl 3 rfl) ?_
          refine w_get (C := RX6) (T := TX6) (N := 11) (ci := 6) (v := .ref ((g 4))) hx hb hts hin6 hown hK hP 0 (by decide) rfl rfl 5 (by decide) (hts (.fieldLink RX6 19 "MixedBlocksModel" "text" "[I") (List.mem_of_getElem? (i := 3) rfl)) (fun _ h9 => h9) rfl dX6_number_24 ?_
          refine lv_aload_n hx hb dX6_number_27 rfl (lv_at hl 3 rfl) ?_
          refine w_get (C := RX6) (T := TX6) (N := 11) (ci := 6) (v := .int (nI ai2)) hx hb hts hin6 hown hK hP 0 (by decide) rfl rfl 8 (by decide) (hts (.fieldLink RX6 109 "MixedBlocksModel" "at" "I") (List.mem_of_getElem? (i := 1) rfl)) (fun _ h9 => h9) rfl dX6_number_28 ?_
          refine w_iald hx hb hK hP 4 (by decide) rfl (vp_in_nI (by omega) (by decide)) dX6_number_31 ?_
          have hcb_16 := hcs (ai2) (by omega)
          rw [nI_clamp (by omega), htx _ (by omega)]
          refine lv_goto (tgt := 36) hx hb dX6_number_32 (by decide) ?_
          refine lv_istore (lv' := [(5, .int (nI (cd ai2))), (4, .int 1), (2, .int (nI v)), (3, .int (nI d)), (0, .ref ((g 0))), (1, .int (nI le))]) hx hb dX6_number_36 hl (by decide) rfl (fun ls hl => ?_)
          refine lv_iload hx hb dX6_number_38 (lv_at hl 0 rfl) ?_
          refine lv_bipush (v := 48) hx hb dX6_number_40 (by decide) ?_
          refine lv_bipush (v := 57) hx hb dX6_number_42 (by decide) ?_
          refine va_calli (va_runS (As := [.int (nI (cd ai2)), .int 48, .int 57]) (rest := []) ⟨hx, hb, hml, hown, hts⟩ (c_X6_in l (nI (cd ai2)) 48 57) (va_cwS 3 hts gX6_number_X6_in rfl rfl rfl (by decide +kernel) ⟨Nat.le_of_ble_eq_true rfl, Nat.le_of_ble_eq_true rfl⟩) ⟨wU_blind, fun U hU hW => ⟨rfl, trivial⟩⟩ rfl rfl hl.1 rfl (lv_room (Nat.le_of_ble_eq_true rfl)) dX6_number_44 ⟨Nat.zero_le _, Nat.zero_le _⟩) hS (fun q _ h => h.elim) (fun q h => h.elim) (fun r_17 uu t H_17 locs_17 ht hvm hw hB hz1 hk1 hS => ?_)
          have hP := hP.same hk1
          obtain rfl : r_17 = (bI (inB (nI (cd ai2)) 48 57)) := hw
          refine lv_if_eq (tgt := 87) hx hb dX6_number_47 (by decide) (fun c_18 => ?_) (fun c_18 => ?_)
          · refine lv_iconst (v := 0) hx hb dX6_number_87 (by decide) ?_
            refine lv_istore (lv' := [(6, .int 0), (5, .int (nI (cd ai2))), (4, .int 1), (2, .int (nI v)), (3, .int (nI d)), (0, .ref ((g 0))), (1, .int (nI le))]) hx hb dX6_number_88 hl (by decide) rfl (fun ls hl => ?_)
            refine lv_iload hx hb dX6_number_90 (lv_at hl 0 rfl) ?_
            refine lv_if_eq (tgt := 108) hx hb dX6_number_92 (by decide) (fun c_19 => ?_) (fun c_19 => ?_)
            · refine lv_iload_n hx hb dX6_number_108 rfl (lv_at hl 3 rfl) ?_
              refine lv_istore_n (lv' := [(2, .int (nI v)), (6, .int 0), (5, .int (nI (cd ai2))), (4, .int 1), (3, .int (nI d)), (0, .ref ((g 0))), (1, .int (nI le))]) hx hb dX6_number_109 rfl hl (by decide) rfl (fun ls hl => ?_)
              refine lv_iload_n hx hb dX6_number_110 rfl (lv_at hl 4 rfl) ?_
              refine lv_iload hx hb dX6_number_111 (lv_at hl 1 rfl) ?_
              refine lv_if_eq (tgt := 120) hx hb dX6_number_113 (by decide) (fun c_20 => ?_) (fun c_20 => ?_)
              · refine lv_iconst (v := 0) hx hb dX6_number_120 (by decide) ?_
                refine lv_iadd hx hb dX6_number_121 ?_
                rw [show (nI d) + 0 = nI (d + 0) from nI_add d 0]
                refine lv_istore_n (lv' := [(3, .int (nI (d + 0))), (2, .int (nI v)), (6, .int 0), (5, .int (nI (cd ai2))), (4, .int 1), (0, .ref ((g 0))), (1, .int (nI le))]) hx hb dX6_number_122 rfl hl (by decide) rfl (fun ls hl => ?_)
                refine lv_aload_n hx hb dX6_number_123 rfl (lv_at hl 5 rfl) ?_
                refine lv_dup hx hb dX6_number_124 rfl ?_
                refine w_get (C := RX6) (T := TX6) (N := 11) (ci := 6) (v := .int (nI ai2)) hx hb hts hin6 hown hK hP 0 (by decide) rfl rfl 8 (by decide) (hts (.fieldLink RX6 109 "MixedBlocksModel" "at" "I") (List.mem_of_getElem? (i := 1) rfl)) (fun _ h9 => h9) rfl dX6_number_125 ?_
                refine lv_iload hx hb dX6_number_128 (lv_at hl 2 rfl) ?_
                refine lv_if_eq (tgt := 137) hx hb dX6_number_130 (by decide) (fun c_21 => ?_) (fun c_21 => ?_)
                · refine lv_iconst (v := 0) hx hb dX6_number_137 (by decide) ?_
                  refine lv_iadd hx hb dX6_number_138 ?_
                  rw [show (nI ai2) + 0 = nI (ai2 + 0) from nI_add ai2 0]
                  refine w_put (C := RX6) (T := TX6) (N := 11) (ci := 6) (v := .int (nI (ai2 + 0))) (ty := .int) hx hb hts hin6 tyX6 tyX6_ok nmX6 hown hK hP hI hA hS 0 (by decide) rfl rfl 8 (by decide) (hts (.fieldLink RX6 109 "MixedBlocksModel" "at" "I") (List.mem_of_getElem? (i := 1) rfl)) (fun _ h9 => h9) rfl (by decide +kernel) rfl rfl (Nat.le_of_ble_eq_true rfl) dX6_number_139 (moF E g th f aa sv sm tx ln ro (ai2 + 0) false dg) rfl mo_ne0 (fun H_22 locs_22 hP hS => ?_)
                  refine lv_iload hx hb dX6_number_142 (lv_at hl 2 rfl) ?_
                  refine lv_istore (lv' := [(4, .int 0), (3, .int (nI (d + 0))), (2, .int (nI v)), (6, .int 0), (5, .int (nI (cd ai2))), (0, .ref ((g 0))), (1, .int (nI le))]) hx hb dX6_number_144 hl (by decide) rfl (fun ls hl => ?_)
                  refine lv_goto (tgt := 7) hx hb dX6_number_146 (by decide) ?_
                  have hno : nuO cd ln le ai2 v d = false := decide_eq_false (fun z => absurd z.2.1 (inB_c (bI_0 c_18)))
                  have hq := hres.symm.trans (nuS_n hno)
                  refine lv_iload hx hb dX6_number_7 (lv_at hl 0 rfl) ?_
                  refine lv_if_eq (tgt := 149) hx hb dX6_number_9 (by decide) (fun c_23 => ?_) (fun c_23 => ?_)
                  · refine lv_aload_n hx hb dX6_number_149 rfl (lv_at hl 5 rfl) ?_
                    refine lv_aload_n hx hb dX6_number_150 rfl (lv_at hl 5 rfl) ?_
                    refine w_get (C := RX6) (T := TX6) (N := 11) (ci := 6) (v := .int ((bI false))) hx hb hts hin6 hown hK hP 0 (by decide) rfl rfl 9 (by decide) (hts (.fieldLink RX6 115 "MixedBlocksModel" "isWrong" "Z") (List.mem_of_getElem? (i := 4) rfl)) (fun _ h9 => h9) rfl dX6_number_151 ?_
                    refine lv_if_ne (tgt := 166) hx hb dX6_number_154 (by decide) (fun c_24 => ?_) (fun c_24 => ?_)
                    · exact absurd rfl c_24
                    · refine lv_iload_n hx hb dX6_number_157 rfl (lv_at hl 1 rfl) ?_
                      refine lv_if_eq (tgt := 166) hx hb dX6_number_158 (by decide) (fun c_25 => ?_) (fun c_25 => ?_)
                      · have n_25 : (d + 0) = 0 := (nI_eq (a := (d + 0)) (b := 0) (by omega) (by omega)).mp c_25
                        refine lv_iconst (v := 1) hx hb dX6_number_166 (by decide) ?_
                        refine lv_goto (tgt := 171) hx hb dX6_number_167 (by decide) ?_
                        refine w_put (C := RX6) (T := TX6) (N := 11) (ci := 6) (v := .int 1) (ty := .boolean) hx hb hts hin6 tyX6 tyX6_ok nmX6 hown hK hP hI hA hS 0 (by decide) rfl rfl 9 (by decide) (hts (.fieldLink RX6 115 "MixedBlocksModel" "isWrong" "Z") (List.mem_of_getElem? (i := 4) rfl)) (fun _ h9 => h9) rfl (by decide +kernel) rfl rfl (Nat.le_of_ble_eq_true rfl) dX6_number_171 (moF E g th f aa sv sm tx ln ro (ai2 + 0) true dg) rfl mo_ne0 (fun H_26 locs_26 hP hS => ?_)
                        refine lv_iload_n hx hb dX6_number_174 rfl (lv_at hl 2 rfl) ?_
                        have hwr : nuW le (nuS cd ln le 4 ai 0 0) = true := by rw [hq]; exact decide_eq_true (by show d = 0 ∨ v < le; omega)
                        exact W.iret (v := (nI v)) hx hb hr (fun t ht hW => ⟨⟨_, (), rfl, (by show _ = _; rw [hq]), (by show wP E 6 g (moF E g th f aa sv sm tx ln ro ((nuS cd ln le 4 ai 0 0).1) (nuW le (nuS cd ln le 4 ai 0 0)) dg) t.heap; rw [ht, hwr, hq]; exact hP)⟩, hS.F ht⟩) hS.2.2 dX6_number_175
                      · have n_25 : ¬ ((d + 0) = 0) := fun z => c_25 ((nI_eq (a := (d + 0)) (b := 0) (by omega) (by omega)).mpr z)
                        refine lv_iload_n hx hb dX6_number_161 rfl (lv_at hl 2 rfl) ?_
                        refine lv_iload_n hx hb dX6_number_162 rfl (lv_at hl 6 rfl) ?_
                        refine lv_icmp_ge (tgt := 170) hx hb dX6_number_163 (by decide) (fun c_27 => ?_) (fun c_27 => ?_)
                        · have n_27 : le ≤ v := (nI_leI (a := le) (b := v) (by omega) (by omega)).mp c_27
                          refine lv_iconst (v := 0) hx hb dX6_number_170 (by decide) ?_
                          refine w_put (C := RX6) (T := TX6) (N := 11) (ci := 6) (v := .int 0) (ty := .boolean) hx hb hts hin6 tyX6 tyX6_ok nmX6 hown hK hP hI hA hS 0 (by decide) rfl rfl 9 (by decide) (hts (.fieldLink RX6 115 "MixedBlocksModel" "isWrong" "Z") (List.mem_of_getElem? (i := 4) rfl)) (fun _ h9 => h9) rfl (by decide +kernel) rfl rfl (Nat.le_of_ble_eq_true rfl) dX6_number_171 (moF E g th f aa sv sm tx ln ro (ai2 + 0) false dg) rfl mo_ne0 (fun H_28 locs_28 hP hS => ?_)
                          refine lv_iload_n hx hb dX6_number_174 rfl (lv_at hl 2 rfl) ?_
                          have hwr : nuW le (nuS cd ln le 4 ai 0 0) = false := by rw [hq]; exact decide_eq_false (by show ¬ (d = 0 ∨ v < le); omega)
                          exact W.iret (v := (nI v)) hx hb hr (fun t ht hW => ⟨⟨_, (), rfl, (by show _ = _; rw [hq]), (by show wP E 6 g (moF E g th f aa sv sm tx ln ro ((nuS cd ln le 4 ai 0 0).1) (nuW le (nuS cd ln le 4 ai 0 0)) dg) t.heap; rw [ht, hwr, hq]; exact hP)⟩, hS.F ht⟩) hS.2.2 dX6_number_175
                        · have n_27 : ¬ (le ≤ v) := fun z => c_27 ((nI_leI (a := le) (b := v) (by omega) (by omega)).mpr z)
                          refine lv_iconst (v := 1) hx hb dX6_number_166 (by decide) ?_
                          refine lv_goto (tgt := 171) hx hb dX6_number_167 (by decide) ?_
                          refine w_put (C := RX6) (T := TX6) (N := 11) (ci := 6) (v := .int 1) (ty := .boolean) hx hb hts hin6 tyX6 tyX6_ok nmX6 hown hK hP hI hA hS 0 (by decide) rfl rfl 9 (by decide) (hts (.fieldLink RX6 115 "MixedBlocksModel" "isWrong" "Z") (List.mem_of_getElem? (i := 4) rfl)) (fun _ h9 => h9) rfl (by decide +kernel) rfl rfl (Nat.le_of_ble_eq_true rfl) dX6_number_171 (moF E g th f aa sv sm tx ln ro (ai2 + 0) true dg) rfl mo_ne0 (fun H_29 locs_29 hP hS => ?_)
                          refine lv_iload_n hx hb dX6_number_174 rfl (lv_at hl 2 rfl) ?_
                          have hwr : nuW le (nuS cd ln le 4 ai 0 0) = true := by rw [hq]; exact decide_eq_true (by show d = 0 ∨ v < le; omega)
                          exact W.iret (v := (nI v)) hx hb hr (fun t ht hW => ⟨⟨_, (), rfl, (by show _ = _; rw [hq]), (by show wP E 6 g (moF E g th f aa sv sm tx ln ro ((nuS cd ln le 4 ai 0 0).1) (nuW le (nuS cd ln le 4 ai 0 0)) dg) t.heap; rw [ht, hwr, hq]; exact hP)⟩, hS.F ht⟩) hS.2.2 dX6_number_175
                  · exact absurd rfl c_23
                · exact absurd rfl c_21
              · exact absurd rfl c_20
            · exact absurd rfl c_19
          · have hcc := inB_c2 (bI_1 c_18) (by omega)
            refine lv_iload_n hx hb dX6_number_50 rfl (lv_at hl 3 rfl) ?_
            refine lv_iconst (v := 4) hx hb dX6_number_51 (by decide) ?_
            refine lv_icmp_ge (tgt := 87) hx hb dX6_number_52 (by decide) (fun c_30 => ?_) (fun c_30 => ?_)
            · have n_30 : 4 ≤ d := (nI_leI (a := 4) (b := d) (by omega) (by omega)).mp c_30
              refine lv_iconst (v := 0) hx hb dX6_number_87 (by decide) ?_
              refine lv_istore (lv' := [(6, .int 0), (5, .int (nI (cd ai2))), (4, .int 1), (2, .int (nI v)), (3, .int (nI d)), (0, .ref ((g 0))), (1, .int (nI le))]) hx hb dX6_number_88 hl (by decide) rfl (fun ls hl => ?_)
              refine lv_iload hx hb dX6_number_90 (lv_at hl 0 rfl) ?_
              refine lv_if_eq (tgt := 108) hx hb dX6_number_92 (by decide) (fun c_31 => ?_) (fun c_31 => ?_)
              · refine lv_iload_n hx hb dX6_number_108 rfl (lv_at hl 3 rfl) ?_
                refine lv_istore_n (lv' := [(2, .int (nI v)), (6, .int 0), (5, .int (nI (cd ai2))), (4, .int 1), (3, .int (nI d)), (0, .ref ((g 0))), (1, .int (nI le))]) hx hb dX6_number_109 rfl hl (by decide) rfl (fun ls hl => ?_)
                refine lv_iload_n hx hb dX6_number_110 rfl (lv_at hl 4 rfl) ?_
                refine lv_iload hx hb dX6_number_111 (lv_at hl 1 rfl) ?_
                refine lv_if_eq (tgt := 120) hx hb dX6_number_113 (by decide) (fun c_32 => ?_) (fun c_32 => ?_)
                · refine lv_iconst (v := 0) hx hb dX6_number_120 (by decide) ?_
                  refine lv_iadd hx hb dX6_number_121 ?_
                  rw [show (nI d) + 0 = nI (d + 0) from nI_add d 0]
                  refine lv_istore_n (lv' := [(3, .int (nI (d + 0))), (2, .int (nI v)), (6, .int 0), (5, .int (nI (cd ai2))), (4, .int 1), (0, .ref ((g 0))), (1, .int (nI le))]) hx hb dX6_number_122 rfl hl (by decide) rfl (fun ls hl => ?_)
                  refine lv_aload_n hx hb dX6_number_123 rfl (lv_at hl 5 rfl) ?_
                  refine lv_dup hx hb dX6_number_124 rfl ?_
                  refine w_get (C := RX6) (T := TX6) (N := 11) (ci := 6) (v := .int (nI ai2)) hx hb hts hin6 hown hK hP 0 (by decide) rfl rfl 8 (by decide) (hts (.fieldLink RX6 109 "MixedBlocksModel" "at" "I") (List.mem_of_getElem? (i := 1) rfl)) (fun _ h9 => h9) rfl dX6_number_125 ?_
                  refine lv_iload hx hb dX6_number_128 (lv_at hl 2 rfl) ?_
                  refine lv_if_eq (tgt := 137) hx hb dX6_number_130 (by decide) (fun c_33 => ?_) (fun c_33 => ?_)
                  · refine lv_iconst (v := 0) hx hb dX6_number_137 (by decide) ?_
                    refine lv_iadd hx hb dX6_number_138 ?_
                    rw [show (nI ai2) + 0 = nI (ai2 + 0) from nI_add ai2 0]
                    refine w_put (C := RX6) (T := TX6) (N := 11) (ci := 6) (v := .int (nI (ai2 + 0))) (ty := .int) hx hb hts hin6 tyX6 tyX6_ok nmX6 hown hK hP hI hA hS 0 (by decide) rfl rfl 8 (by decide) (hts (.fieldLink RX6 109 "MixedBlocksModel" "at" "I") (List.mem_of_getElem? (i := 1) rfl)) (fun _ h9 => h9) rfl (by decide +kernel) rfl rfl (Nat.le_of_ble_eq_true rfl) dX6_number_139 (moF E g th f aa sv sm tx ln ro (ai2 + 0) false dg) rfl mo_ne0 (fun H_34 locs_34 hP hS => ?_)
                    refine lv_iload hx hb dX6_number_142 (lv_at hl 2 rfl) ?_
                    refine lv_istore (lv' := [(4, .int 0), (3, .int (nI (d + 0))), (2, .int (nI v)), (6, .int 0), (5, .int (nI (cd ai2))), (0, .ref ((g 0))), (1, .int (nI le))]) hx hb dX6_number_144 hl (by decide) rfl (fun ls hl => ?_)
                    refine lv_goto (tgt := 7) hx hb dX6_number_146 (by decide) ?_
                    have hno : nuO cd ln le ai2 v d = false := decide_eq_false (fun z => absurd z.2.2.1 (by omega))
                    have hq := hres.symm.trans (nuS_n hno)
                    refine lv_iload hx hb dX6_number_7 (lv_at hl 0 rfl) ?_
                    refine lv_if_eq (tgt := 149) hx hb dX6_number_9 (by decide) (fun c_35 => ?_) (fun c_35 => ?_)
                    · refine lv_aload_n hx hb dX6_number_149 rfl (lv_at hl 5 rfl) ?_
                      refine lv_aload_n hx hb dX6_number_150 rfl (lv_at hl 5 rfl) ?_
                      refine w_get (C := RX6) (T := TX6) (N := 11) (ci := 6) (v := .int ((bI false))) hx hb hts hin6 hown hK hP 0 (by decide) rfl rfl 9 (by decide) (hts (.fieldLink RX6 115 "MixedBlocksModel" "isWrong" "Z") (List.mem_of_getElem? (i := 4) rfl)) (fun _ h9 => h9) rfl dX6_number_151 ?_
                      refine lv_if_ne (tgt := 166) hx hb dX6_number_154 (by decide) (fun c_36 => ?_) (fun c_36 => ?_)
                      · exact absurd rfl c_36
                      · refine lv_iload_n hx hb dX6_number_157 rfl (lv_at hl 1 rfl) ?_
                        refine lv_if_eq (tgt := 166) hx hb dX6_number_158 (by decide) (fun c_37 => ?_) (fun c_37 => ?_)
                        · have n_37 : (d + 0) = 0 := (nI_eq (a := (d + 0)) (b := 0) (by omega) (by omega)).mp c_37
                          refine lv_iconst (v := 1) hx hb dX6_number_166 (by decide) ?_
                          refine lv_goto (tgt := 171) hx hb dX6_number_167 (by decide) ?_
                          refine w_put (C := RX6) (T := TX6) (N := 11) (ci := 6) (v := .int 1) (ty := .boolean) hx hb hts hin6 tyX6 tyX6_ok nmX6 hown hK hP hI hA hS 0 (by decide) rfl rfl 9 (by decide) (hts (.fieldLink RX6 115 "MixedBlocksModel" "isWrong" "Z") (List.mem_of_getElem? (i := 4) rfl)) (fun _ h9 => h9) rfl (by decide +kernel) rfl rfl (Nat.le_of_ble_eq_true rfl) dX6_number_171 (moF E g th f aa sv sm tx ln ro (ai2 + 0) true dg) rfl mo_ne0 (fun H_38 locs_38 hP hS => ?_)
                          refine lv_iload_n hx hb dX6_number_174 rfl (lv_at hl 2 rfl) ?_
                          have hwr : nuW le (nuS cd ln le 4 ai 0 0) = true := by rw [hq]; exact decide_eq_true (by show d = 0 ∨ v < le; omega)
                          exact W.iret (v := (nI v)) hx hb hr (fun t ht hW => ⟨⟨_, (), rfl, (by show _ = _; rw [hq]), (by show wP E 6 g (moF E g th f aa sv sm tx ln ro ((nuS cd ln le 4 ai 0 0).1) (nuW le (nuS cd ln le 4 ai 0 0)) dg) t.heap; rw [ht, hwr, hq]; exact hP)⟩, hS.F ht⟩) hS.2.2 dX6_number_175
                        · have n_37 : ¬ ((d + 0) = 0) := fun z => c_37 ((nI_eq (a := (d + 0)) (b := 0) (by omega) (by omega)).mpr z)
                          refine lv_iload_n hx hb dX6_number_161 rfl (lv_at hl 2 rfl) ?_
                          refine lv_iload_n hx hb dX6_number_162 rfl (lv_at hl 6 rfl) ?_
                          refine lv_icmp_ge (tgt := 170) hx hb dX6_number_163 (by decide) (fun c_39 => ?_) (fun c_39 => ?_)
                          · have n_39 : le ≤ v := (nI_leI (a := le) (b := v) (by omega) (by omega)).mp c_39
                            refine lv_iconst (v := 0) hx hb dX6_number_170 (by decide) ?_
                            refine w_put (C := RX6) (T := TX6) (N := 11) (ci := 6) (v := .int 0) (ty := .boolean) hx hb hts hin6 tyX6 tyX6_ok nmX6 hown hK hP hI hA hS 0 (by decide) rfl rfl 9 (by decide) (hts (.fieldLink RX6 115 "MixedBlocksModel" "isWrong" "Z") (List.mem_of_getElem? (i := 4) rfl)) (fun _ h9 => h9) rfl (by decide +kernel) rfl rfl (Nat.le_of_ble_eq_true rfl) dX6_number_171 (moF E g th f aa sv sm tx ln ro (ai2 + 0) false dg) rfl mo_ne0 (fun H_40 locs_40 hP hS => ?_)
                            refine lv_iload_n hx hb dX6_number_174 rfl (lv_at hl 2 rfl) ?_
                            have hwr : nuW le (nuS cd ln le 4 ai 0 0) = false := by rw [hq]; exact decide_eq_false (by show ¬ (d = 0 ∨ v < le); omega)
                            exact W.iret (v := (nI v)) hx hb hr (fun t ht hW => ⟨⟨_, (), rfl, (by show _ = _; rw [hq]), (by show wP E 6 g (moF E g th f aa sv sm tx ln ro ((nuS cd ln le 4 ai 0 0).1) (nuW le (nuS cd ln le 4 ai 0 0)) dg) t.heap; rw [ht, hwr, hq]; exact hP)⟩, hS.F ht⟩) hS.2.2 dX6_number_175
                          · have n_39 : ¬ (le ≤ v) := fun z => c_39 ((nI_leI (a := le) (b := v) (by omega) (by omega)).mpr z)
                            refine lv_iconst (v := 1) hx hb dX6_number_166 (by decide) ?_
                            refine lv_goto (tgt := 171) hx hb dX6_number_167 (by decide) ?_
                            refine w_put (C := RX6) (T := TX6) (N := 11) (ci := 6) (v := .int 1) (ty := .boolean) hx hb hts hin6 tyX6 tyX6_ok nmX6 hown hK hP hI hA hS 0 (by decide) rfl rfl 9 (by decide) (hts (.fieldLink RX6 115 "MixedBlocksModel" "isWrong" "Z") (List.mem_of_getElem? (i := 4) rfl)) (fun _ h9 => h9) rfl (by decide +kernel) rfl rfl (Nat.le_of_ble_eq_true rfl) dX6_number_171 (moF E g th f aa sv sm tx ln ro (ai2 + 0) true dg) rfl mo_ne0 (fun H_41 locs_41 hP hS => ?_)
                            refine lv_iload_n hx hb dX6_number_174 rfl (lv_at hl 2 rfl) ?_
                            have hwr : nuW le (nuS cd ln le 4 ai 0 0) = true := by rw [hq]; exact decide_eq_true (by show d = 0 ∨ v < le; omega)
                            exact W.iret (v := (nI v)) hx hb hr (fun t ht hW => ⟨⟨_, (), rfl, (by show _ = _; rw [hq]), (by show wP E 6 g (moF E g th f aa sv sm tx ln ro ((nuS cd ln le 4 ai 0 0).1) (nuW le (nuS cd ln le 4 ai 0 0)) dg) t.heap; rw [ht, hwr, hq]; exact hP)⟩, hS.F ht⟩) hS.2.2 dX6_number_175
                    · exact absurd rfl c_35
                  · exact absurd rfl c_33
                · exact absurd rfl c_32
              · exact absurd rfl c_31
            · have n_30 : ¬ (4 ≤ d) := fun z => c_30 ((nI_leI (a := 4) (b := d) (by omega) (by omega)).mpr z)
              exfalso
              omega
    | succ k ihk =>
      intro ai2 v d H locs ls ha hvd hd hres hP hS hl
      have h10 : (10 : Nat) ^ d ≤ 10 ^ 4 := Nat.pow_le_pow_right (by decide) (by omega)
      have h104 : (10 : Nat) ^ 4 = 10000 := by decide
      refine lv_iload hx hb dX6_number_7 (lv_at hl 0 rfl) ?_
      refine lv_if_eq (tgt := 149) hx hb dX6_number_9 (by decide) (fun c_42 => ?_) (fun c_42 => ?_)
      · exact absurd c_42 (by decide)
      · refine lv_aload_n hx hb dX6_number_12 rfl (lv_at hl 3 rfl) ?_
        refine w_get (C := RX6) (T := TX6) (N := 11) (ci := 6) (v := .int (nI ai2)) hx hb hts hin6 hown hK hP 0 (by decide) rfl rfl 8 (by decide) (hts (.fieldLink RX6 109 "MixedBlocksModel" "at" "I") (List.mem_of_getElem? (i := 1) rfl)) (fun _ h9 => h9) rfl dX6_number_13 ?_
        refine lv_aload_n hx hb dX6_number_16 rfl (lv_at hl 3 rfl) ?_
        refine w_get (C := RX6) (T := TX6) (N := 11) (ci := 6) (v := .int (nI ln)) hx hb hts hin6 hown hK hP 0 (by decide) rfl rfl 6 (by decide) (hts (.fieldLink RX6 106 "MixedBlocksModel" "length" "I") (List.mem_of_getElem? (i := 2) rfl)) (fun _ h9 => h9) rfl dX6_number_17 ?_
        refine lv_icmp_ge (tgt := 35) hx hb dX6_number_20 (by decide) (fun c_43 => ?_) (fun c_43 => ?_)
        · have n_43 : ln ≤ ai2 := (nI_leI (a := ln) (b := ai2) (by omega) (by omega)).mp c_43
          refine lv_iconst (v := 0) hx hb dX6_number_35 (by decide) ?_
          refine lv_istore (lv' := [(5, .int 0), (4, .int 1), (2, .int (nI v)), (3, .int (nI d)), (0, .ref ((g 0))), (1, .int (nI le))]) hx hb dX6_number_36 hl (by decide) rfl (fun ls hl => ?_)
          refine lv_iload hx hb dX6_number_38 (lv_at hl 0 rfl) ?_
          refine lv_bipush (v := 48) hx hb dX6_number_40 (by decide) ?_
          refine lv_bipush (v := 57) hx hb dX6_number_42 (by decide) ?_
          refine va_calli (va_runS (As := [.int 0, .int 48, .int 57]) (rest := []) ⟨hx, hb, hml, hown, hts⟩ (c_X6_in l 0 48 57) (va_cwS 3 hts gX6_number_X6_in rfl rfl rfl (by decide +kernel) ⟨Nat.le_of_ble_eq_true rfl, Nat.le_of_ble_eq_true rfl⟩) ⟨wU_blind, fun U hU hW => ⟨rfl, trivial⟩⟩ rfl rfl hl.1 rfl (lv_room (Nat.le_of_ble_eq_true rfl)) dX6_number_44 ⟨Nat.zero_le _, Nat.zero_le _⟩) hS (fun q _ h => h.elim) (fun q h => h.elim) (fun r_44 uu t H_44 locs_44 ht hvm hw hB hz1 hk1 hS => ?_)
          have hP := hP.same hk1
          obtain rfl : r_44 = (bI (inB 0 48 57)) := hw
          refine lv_if_eq (tgt := 87) hx hb dX6_number_47 (by decide) (fun c_45 => ?_) (fun c_45 => ?_)
          · refine lv_iconst (v := 0) hx hb dX6_number_87 (by decide) ?_
            refine lv_istore (lv' := [(6, .int 0), (5, .int 0), (4, .int 1), (2, .int (nI v)), (3, .int (nI d)), (0, .ref ((g 0))), (1, .int (nI le))]) hx hb dX6_number_88 hl (by decide) rfl (fun ls hl => ?_)
            refine lv_iload hx hb dX6_number_90 (lv_at hl 0 rfl) ?_
            refine lv_if_eq (tgt := 108) hx hb dX6_number_92 (by decide) (fun c_46 => ?_) (fun c_46 => ?_)
            · refine lv_iload_n hx hb dX6_number_108 rfl (lv_at hl 3 rfl) ?_
              refine lv_istore_n (lv' := [(2, .int (nI v)), (6, .int 0), (5, .int 0), (4, .int 1), (3, .int (nI d)), (0, .ref ((g 0))), (1, .int (nI le))]) hx hb dX6_number_109 rfl hl (by decide) rfl (fun ls hl => ?_)
              refine lv_iload_n hx hb dX6_number_110 rfl (lv_at hl 4 rfl) ?_
              refine lv_iload hx hb dX6_number_111 (lv_at hl 1 rfl) ?_
              refine lv_if_eq (tgt := 120) hx hb dX6_number_113 (by decide) (fun c_47 => ?_) (fun c_47 => ?_)
              · refine lv_iconst (v := 0) hx hb dX6_number_120 (by decide) ?_
                refine lv_iadd hx hb dX6_number_121 ?_
                rw [show (nI d) + 0 = nI (d + 0) from nI_add d 0]
                refine lv_istore_n (lv' := [(3, .int (nI (d + 0))), (2, .int (nI v)), (6, .int 0), (5, .int 0), (4, .int 1), (0, .ref ((g 0))), (1, .int (nI le))]) hx hb dX6_number_122 rfl hl (by decide) rfl (fun ls hl => ?_)
                refine lv_aload_n hx hb dX6_number_123 rfl (lv_at hl 5 rfl) ?_
                refine lv_dup hx hb dX6_number_124 rfl ?_
                refine w_get (C := RX6) (T := TX6) (N := 11) (ci := 6) (v := .int (nI ai2)) hx hb hts hin6 hown hK hP 0 (by decide) rfl rfl 8 (by decide) (hts (.fieldLink RX6 109 "MixedBlocksModel" "at" "I") (List.mem_of_getElem? (i := 1) rfl)) (fun _ h9 => h9) rfl dX6_number_125 ?_
                refine lv_iload hx hb dX6_number_128 (lv_at hl 2 rfl) ?_
                refine lv_if_eq (tgt := 137) hx hb dX6_number_130 (by decide) (fun c_48 => ?_) (fun c_48 => ?_)
                · refine lv_iconst (v := 0) hx hb dX6_number_137 (by decide) ?_
                  refine lv_iadd hx hb dX6_number_138 ?_
                  rw [show (nI ai2) + 0 = nI (ai2 + 0) from nI_add ai2 0]
                  refine w_put (C := RX6) (T := TX6) (N := 11) (ci := 6) (v := .int (nI (ai2 + 0))) (ty := .int) hx hb hts hin6 tyX6 tyX6_ok nmX6 hown hK hP hI hA hS 0 (by decide) rfl rfl 8 (by decide) (hts (.fieldLink RX6 109 "MixedBlocksModel" "at" "I") (List.mem_of_getElem? (i := 1) rfl)) (fun _ h9 => h9) rfl (by decide +kernel) rfl rfl (Nat.le_of_ble_eq_true rfl) dX6_number_139 (moF E g th f aa sv sm tx ln ro (ai2 + 0) false dg) rfl mo_ne0 (fun H_49 locs_49 hP hS => ?_)
                  refine lv_iload hx hb dX6_number_142 (lv_at hl 2 rfl) ?_
                  refine lv_istore (lv' := [(4, .int 0), (3, .int (nI (d + 0))), (2, .int (nI v)), (6, .int 0), (5, .int 0), (0, .ref ((g 0))), (1, .int (nI le))]) hx hb dX6_number_144 hl (by decide) rfl (fun ls hl => ?_)
                  refine lv_goto (tgt := 7) hx hb dX6_number_146 (by decide) ?_
                  have hno : nuO cd ln le ai2 v d = false := decide_eq_false (fun z => absurd z.1 (by omega))
                  have hq := hres.symm.trans (nuS_n hno)
                  refine lv_iload hx hb dX6_number_7 (lv_at hl 0 rfl) ?_
                  refine lv_if_eq (tgt := 149) hx hb dX6_number_9 (by decide) (fun c_50 => ?_) (fun c_50 => ?_)
                  · refine lv_aload_n hx hb dX6_number_149 rfl (lv_at hl 5 rfl) ?_
                    refine lv_aload_n hx hb dX6_number_150 rfl (lv_at hl 5 rfl) ?_
                    refine w_get (C := RX6) (T := TX6) (N := 11) (ci := 6) (v := .int ((bI false))) hx hb hts hin6 hown hK hP 0 (by decide) rfl rfl 9 (by decide) (hts (.fieldLink RX6 115 "MixedBlocksModel" "isWrong" "Z") (List.mem_of_getElem? (i := 4) rfl)) (fun _ h9 => h9) rfl dX6_number_151 ?_
                    refine lv_if_ne (tgt := 166) hx hb dX6_number_154 (by decide) (fun c_51 => ?_) (fun c_51 => ?_)
                    · exact absurd rfl c_51
                    · refine lv_iload_n hx hb dX6_number_157 rfl (lv_at hl 1 rfl) ?_
                      refine lv_if_eq (tgt := 166) hx hb dX6_number_158 (by decide) (fun c_52 => ?_) (fun c_52 => ?_)
                      · have n_52 : (d + 0) = 0 := (nI_eq (a := (d + 0)) (b := 0) (by omega) (by omega)).mp c_52
                        refine lv_iconst (v := 1) hx hb dX6_number_166 (by decide) ?_
                        refine lv_goto (tgt := 171) hx hb dX6_number_167 (by decide) ?_
                        refine w_put (C := RX6) (T := TX6) (N := 11) (ci := 6) (v := .int 1) (ty := .boolean) hx hb hts hin6 tyX6 tyX6_ok nmX6 hown hK hP hI hA hS 0 (by decide) rfl rfl 9 (by decide) (hts (.fieldLink RX6 115 "MixedBlocksModel" "isWrong" "Z") (List.mem_of_getElem? (i := 4) rfl)) (fun _ h9 => h9) rfl (by decide +kernel) rfl rfl (Nat.le_of_ble_eq_true rfl) dX6_number_171 (moF E g th f aa sv sm tx ln ro (ai2 + 0) true dg) rfl mo_ne0 (fun H_53 locs_53 hP hS => ?_)
                        refine lv_iload_n hx hb dX6_number_174 rfl (lv_at hl 2 rfl) ?_
                        have hwr : nuW le (nuS cd ln le 4 ai 0 0) = true := by rw [hq]; exact decide_eq_true (by show d = 0 ∨ v < le; omega)
                        exact W.iret (v := (nI v)) hx hb hr (fun t ht hW => ⟨⟨_, (), rfl, (by show _ = _; rw [hq]), (by show wP E 6 g (moF E g th f aa sv sm tx ln ro ((nuS cd ln le 4 ai 0 0).1) (nuW le (nuS cd ln le 4 ai 0 0)) dg) t.heap; rw [ht, hwr, hq]; exact hP)⟩, hS.F ht⟩) hS.2.2 dX6_number_175
                      · have n_52 : ¬ ((d + 0) = 0) := fun z => c_52 ((nI_eq (a := (d + 0)) (b := 0) (by omega) (by omega)).mpr z)
                        refine lv_iload_n hx hb dX6_number_161 rfl (lv_at hl 2 rfl) ?_
                        refine lv_iload_n hx hb dX6_number_162 rfl (lv_at hl 6 rfl) ?_
                        refine lv_icmp_ge (tgt := 170) hx hb dX6_number_163 (by decide) (fun c_54 => ?_) (fun c_54 => ?_)
                        · have n_54 : le ≤ v := (nI_leI (a := le) (b := v) (by omega) (by omega)).mp c_54
                          refine lv_iconst (v := 0) hx hb dX6_number_170 (by decide) ?_
                          refine w_put (C := RX6) (T := TX6) (N := 11) (ci := 6) (v := .int 0) (ty := .boolean) hx hb hts hin6 tyX6 tyX6_ok nmX6 hown hK hP hI hA hS 0 (by decide) rfl rfl 9 (by decide) (hts (.fieldLink RX6 115 "MixedBlocksModel" "isWrong" "Z") (List.mem_of_getElem? (i := 4) rfl)) (fun _ h9 => h9) rfl (by decide +kernel) rfl rfl (Nat.le_of_ble_eq_true rfl) dX6_number_171 (moF E g th f aa sv sm tx ln ro (ai2 + 0) false dg) rfl mo_ne0 (fun H_55 locs_55 hP hS => ?_)
                          refine lv_iload_n hx hb dX6_number_174 rfl (lv_at hl 2 rfl) ?_
                          have hwr : nuW le (nuS cd ln le 4 ai 0 0) = false := by rw [hq]; exact decide_eq_false (by show ¬ (d = 0 ∨ v < le); omega)
                          exact W.iret (v := (nI v)) hx hb hr (fun t ht hW => ⟨⟨_, (), rfl, (by show _ = _; rw [hq]), (by show wP E 6 g (moF E g th f aa sv sm tx ln ro ((nuS cd ln le 4 ai 0 0).1) (nuW le (nuS cd ln le 4 ai 0 0)) dg) t.heap; rw [ht, hwr, hq]; exact hP)⟩, hS.F ht⟩) hS.2.2 dX6_number_175
                        · have n_54 : ¬ (le ≤ v) := fun z => c_54 ((nI_leI (a := le) (b := v) (by omega) (by omega)).mpr z)
                          refine lv_iconst (v := 1) hx hb dX6_number_166 (by decide) ?_
                          refine lv_goto (tgt := 171) hx hb dX6_number_167 (by decide) ?_
                          refine w_put (C := RX6) (T := TX6) (N := 11) (ci := 6) (v := .int 1) (ty := .boolean) hx hb hts hin6 tyX6 tyX6_ok nmX6 hown hK hP hI hA hS 0 (by decide) rfl rfl 9 (by decide) (hts (.fieldLink RX6 115 "MixedBlocksModel" "isWrong" "Z") (List.mem_of_getElem? (i := 4) rfl)) (fun _ h9 => h9) rfl (by decide +kernel) rfl rfl (Nat.le_of_ble_eq_true rfl) dX6_number_171 (moF E g th f aa sv sm tx ln ro (ai2 + 0) true dg) rfl mo_ne0 (fun H_56 locs_56 hP hS => ?_)
                          refine lv_iload_n hx hb dX6_number_174 rfl (lv_at hl 2 rfl) ?_
                          have hwr : nuW le (nuS cd ln le 4 ai 0 0) = true := by rw [hq]; exact decide_eq_true (by show d = 0 ∨ v < le; omega)
                          exact W.iret (v := (nI v)) hx hb hr (fun t ht hW => ⟨⟨_, (), rfl, (by show _ = _; rw [hq]), (by show wP E 6 g (moF E g th f aa sv sm tx ln ro ((nuS cd ln le 4 ai 0 0).1) (nuW le (nuS cd ln le 4 ai 0 0)) dg) t.heap; rw [ht, hwr, hq]; exact hP)⟩, hS.F ht⟩) hS.2.2 dX6_number_175
                  · exact absurd rfl c_50
                · exact absurd rfl c_48
              · exact absurd rfl c_47
            · exact absurd rfl c_46
          · rw [show inB 0 48 57 = false from by decide] at c_45; exact absurd rfl c_45
        · have n_43 : ¬ (ln ≤ ai2) := fun z => c_43 ((nI_leI (a := ln) (b := ai2) (by omega) (by omega)).mpr z)
          refine lv_aload_n hx hb dX6_number_23 rfl (lv_at hl 3 rfl) ?_
          refine w_get (C := RX6) (T := TX6) (N := 11) (ci := 6) (v := .ref ((g 4))) hx hb hts hin6 hown hK hP 0 (by decide) rfl rfl 5 (by decide) (hts (.fieldLink RX6 19 "MixedBlocksModel" "text" "[I") (List.mem_of_getElem? (i := 3) rfl)) (fun _ h9 => h9) rfl dX6_number_24 ?_
          refine lv_aload_n hx hb dX6_number_27 rfl (lv_at hl 3 rfl) ?_
          refine w_get (C := RX6) (T := TX6) (N := 11) (ci := 6) (v := .int (nI ai2)) hx hb hts hin6 hown hK hP 0 (by decide) rfl rfl 8 (by decide) (hts (.fieldLink RX6 109 "MixedBlocksModel" "at" "I") (List.mem_of_getElem? (i := 1) rfl)) (fun _ h9 => h9) rfl dX6_number_28 ?_
          refine w_iald hx hb hK hP 4 (by decide) rfl (vp_in_nI (by omega) (by decide)) dX6_number_31 ?_
          have hcb_57 := hcs (ai2) (by omega)
          rw [nI_clamp (by omega), htx _ (by omega)]
          refine lv_goto (tgt := 36) hx hb dX6_number_32 (by decide) ?_
          refine lv_istore (lv' := [(5, .int (nI (cd ai2))), (4, .int 1), (2, .int (nI v)), (3, .int (nI d)), (0, .ref ((g 0))), (1, .int (nI le))]) hx hb dX6_number_36 hl (by decide) rfl (fun ls hl => ?_)
          refine lv_iload hx hb dX6_number_38 (lv_at hl 0 rfl) ?_
          refine lv_bipush (v := 48) hx hb dX6_number_40 (by decide) ?_
          refine lv_bipush (v := 57) hx hb dX6_number_42 (by decide) ?_
          refine va_calli (va_runS (As := [.int (nI (cd ai2)), .int 48, .int 57]) (rest := []) ⟨hx, hb, hml, hown, hts⟩ (c_X6_in l (nI (cd ai2)) 48 57) (va_cwS 3 hts gX6_number_X6_in rfl rfl rfl (by decide +kernel) ⟨Nat.le_of_ble_eq_true rfl, Nat.le_of_ble_eq_true rfl⟩) ⟨wU_blind, fun U hU hW => ⟨rfl, trivial⟩⟩ rfl rfl hl.1 rfl (lv_room (Nat.le_of_ble_eq_true rfl)) dX6_number_44 ⟨Nat.zero_le _, Nat.zero_le _⟩) hS (fun q _ h => h.elim) (fun q h => h.elim) (fun r_58 uu t H_58 locs_58 ht hvm hw hB hz1 hk1 hS => ?_)
          have hP := hP.same hk1
          obtain rfl : r_58 = (bI (inB (nI (cd ai2)) 48 57)) := hw
          refine lv_if_eq (tgt := 87) hx hb dX6_number_47 (by decide) (fun c_59 => ?_) (fun c_59 => ?_)
          · refine lv_iconst (v := 0) hx hb dX6_number_87 (by decide) ?_
            refine lv_istore (lv' := [(6, .int 0), (5, .int (nI (cd ai2))), (4, .int 1), (2, .int (nI v)), (3, .int (nI d)), (0, .ref ((g 0))), (1, .int (nI le))]) hx hb dX6_number_88 hl (by decide) rfl (fun ls hl => ?_)
            refine lv_iload hx hb dX6_number_90 (lv_at hl 0 rfl) ?_
            refine lv_if_eq (tgt := 108) hx hb dX6_number_92 (by decide) (fun c_60 => ?_) (fun c_60 => ?_)
            · refine lv_iload_n hx hb dX6_number_108 rfl (lv_at hl 3 rfl) ?_
              refine lv_istore_n (lv' := [(2, .int (nI v)), (6, .int 0), (5, .int (nI (cd ai2))), (4, .int 1), (3, .int (nI d)), (0, .ref ((g 0))), (1, .int (nI le))]) hx hb dX6_number_109 rfl hl (by decide) rfl (fun ls hl => ?_)
              refine lv_iload_n hx hb dX6_number_110 rfl (lv_at hl 4 rfl) ?_
              refine lv_iload hx hb dX6_number_111 (lv_at hl 1 rfl) ?_
              refine lv_if_eq (tgt := 120) hx hb dX6_number_113 (by decide) (fun c_61 => ?_) (fun c_61 => ?_)
              · refine lv_iconst (v := 0) hx hb dX6_number_120 (by decide) ?_
                refine lv_iadd hx hb dX6_number_121 ?_
                rw [show (nI d) + 0 = nI (d + 0) from nI_add d 0]
                refine lv_istore_n (lv' := [(3, .int (nI (d + 0))), (2, .int (nI v)), (6, .int 0), (5, .int (nI (cd ai2))), (4, .int 1), (0, .ref ((g 0))), (1, .int (nI le))]) hx hb dX6_number_122 rfl hl (by decide) rfl (fun ls hl => ?_)
                refine lv_aload_n hx hb dX6_number_123 rfl (lv_at hl 5 rfl) ?_
                refine lv_dup hx hb dX6_number_124 rfl ?_
                refine w_get (C := RX6) (T := TX6) (N := 11) (ci := 6) (v := .int (nI ai2)) hx hb hts hin6 hown hK hP 0 (by decide) rfl rfl 8 (by decide) (hts (.fieldLink RX6 109 "MixedBlocksModel" "at" "I") (List.mem_of_getElem? (i := 1) rfl)) (fun _ h9 => h9) rfl dX6_number_125 ?_
                refine lv_iload hx hb dX6_number_128 (lv_at hl 2 rfl) ?_
                refine lv_if_eq (tgt := 137) hx hb dX6_number_130 (by decide) (fun c_62 => ?_) (fun c_62 => ?_)
                · refine lv_iconst (v := 0) hx hb dX6_number_137 (by decide) ?_
                  refine lv_iadd hx hb dX6_number_138 ?_
                  rw [show (nI ai2) + 0 = nI (ai2 + 0) from nI_add ai2 0]
                  refine w_put (C := RX6) (T := TX6) (N := 11) (ci := 6) (v := .int (nI (ai2 + 0))) (ty := .int) hx hb hts hin6 tyX6 tyX6_ok nmX6 hown hK hP hI hA hS 0 (by decide) rfl rfl 8 (by decide) (hts (.fieldLink RX6 109 "MixedBlocksModel" "at" "I") (List.mem_of_getElem? (i := 1) rfl)) (fun _ h9 => h9) rfl (by decide +kernel) rfl rfl (Nat.le_of_ble_eq_true rfl) dX6_number_139 (moF E g th f aa sv sm tx ln ro (ai2 + 0) false dg) rfl mo_ne0 (fun H_63 locs_63 hP hS => ?_)
                  refine lv_iload hx hb dX6_number_142 (lv_at hl 2 rfl) ?_
                  refine lv_istore (lv' := [(4, .int 0), (3, .int (nI (d + 0))), (2, .int (nI v)), (6, .int 0), (5, .int (nI (cd ai2))), (0, .ref ((g 0))), (1, .int (nI le))]) hx hb dX6_number_144 hl (by decide) rfl (fun ls hl => ?_)
                  refine lv_goto (tgt := 7) hx hb dX6_number_146 (by decide) ?_
                  have hno : nuO cd ln le ai2 v d = false := decide_eq_false (fun z => absurd z.2.1 (inB_c (bI_0 c_59)))
                  have hq := hres.symm.trans (nuS_n hno)
                  refine lv_iload hx hb dX6_number_7 (lv_at hl 0 rfl) ?_
                  refine lv_if_eq (tgt := 149) hx hb dX6_number_9 (by decide) (fun c_64 => ?_) (fun c_64 => ?_)
                  · refine lv_aload_n hx hb dX6_number_149 rfl (lv_at hl 5 rfl) ?_
                    refine lv_aload_n hx hb dX6_number_150 rfl (lv_at hl 5 rfl) ?_
                    refine w_get (C := RX6) (T := TX6) (N := 11) (ci := 6) (v := .int ((bI false))) hx hb hts hin6 hown hK hP 0 (by decide) rfl rfl 9 (by decide) (hts (.fieldLink RX6 115 "MixedBlocksModel" "isWrong" "Z") (List.mem_of_getElem? (i := 4) rfl)) (fun _ h9 => h9) rfl dX6_number_151 ?_
                    refine lv_if_ne (tgt := 166) hx hb dX6_number_154 (by decide) (fun c_65 => ?_) (fun c_65 => ?_)
                    · exact absurd rfl c_65
                    · refine lv_iload_n hx hb dX6_number_157 rfl (lv_at hl 1 rfl) ?_
                      refine lv_if_eq (tgt := 166) hx hb dX6_number_158 (by decide) (fun c_66 => ?_) (fun c_66 => ?_)
                      · have n_66 : (d + 0) = 0 := (nI_eq (a := (d + 0)) (b := 0) (by omega) (by omega)).mp c_66
                        refine lv_iconst (v := 1) hx hb dX6_number_166 (by decide) ?_
                        refine lv_goto (tgt := 171) hx hb dX6_number_167 (by decide) ?_
                        refine w_put (C := RX6) (T := TX6) (N := 11) (ci := 6) (v := .int 1) (ty := .boolean) hx hb hts hin6 tyX6 tyX6_ok nmX6 hown hK hP hI hA hS 0 (by decide) rfl rfl 9 (by decide) (hts (.fieldLink RX6 115 "MixedBlocksModel" "isWrong" "Z") (List.mem_of_getElem? (i := 4) rfl)) (fun _ h9 => h9) rfl (by decide +kernel) rfl rfl (Nat.le_of_ble_eq_true rfl) dX6_number_171 (moF E g th f aa sv sm tx ln ro (ai2 + 0) true dg) rfl mo_ne0 (fun H_67 locs_67 hP hS => ?_)
                        refine lv_iload_n hx hb dX6_number_174 rfl (lv_at hl 2 rfl) ?_
                        have hwr : nuW le (nuS cd ln le 4 ai 0 0) = true := by rw [hq]; exact decide_eq_true (by show d = 0 ∨ v < le; omega)
                        exact W.iret (v := (nI v)) hx hb hr (fun t ht hW => ⟨⟨_, (), rfl, (by show _ = _; rw [hq]), (by show wP E 6 g (moF E g th f aa sv sm tx ln ro ((nuS cd ln le 4 ai 0 0).1) (nuW le (nuS cd ln le 4 ai 0 0)) dg) t.heap; rw [ht, hwr, hq]; exact hP)⟩, hS.F ht⟩) hS.2.2 dX6_number_175
                      · have n_66 : ¬ ((d + 0) = 0) := fun z => c_66 ((nI_eq (a := (d + 0)) (b := 0) (by omega) (by omega)).mpr z)
                        refine lv_iload_n hx hb dX6_number_161 rfl (lv_at hl 2 rfl) ?_
                        refine lv_iload_n hx hb dX6_number_162 rfl (lv_at hl 6 rfl) ?_
                        refine lv_icmp_ge (tgt := 170) hx hb dX6_number_163 (by decide) (fun c_68 => ?_) (fun c_68 => ?_)
                        · have n_68 : le ≤ v := (nI_leI (a := le) (b := v) (by omega) (by omega)).mp c_68
                          refine lv_iconst (v := 0) hx hb dX6_number_170 (by decide) ?_
                          refine w_put (C := RX6) (T := TX6) (N := 11) (ci := 6) (v := .int 0) (ty := .boolean) hx hb hts hin6 tyX6 tyX6_ok nmX6 hown hK hP hI hA hS 0 (by decide) rfl rfl 9 (by decide) (hts (.fieldLink RX6 115 "MixedBlocksModel" "isWrong" "Z") (List.mem_of_getElem? (i := 4) rfl)) (fun _ h9 => h9) rfl (by decide +kernel) rfl rfl (Nat.le_of_ble_eq_true rfl) dX6_number_171 (moF E g th f aa sv sm tx ln ro (ai2 + 0) false dg) rfl mo_ne0 (fun H_69 locs_69 hP hS => ?_)
                          refine lv_iload_n hx hb dX6_number_174 rfl (lv_at hl 2 rfl) ?_
                          have hwr : nuW le (nuS cd ln le 4 ai 0 0) = false := by rw [hq]; exact decide_eq_false (by show ¬ (d = 0 ∨ v < le); omega)
                          exact W.iret (v := (nI v)) hx hb hr (fun t ht hW => ⟨⟨_, (), rfl, (by show _ = _; rw [hq]), (by show wP E 6 g (moF E g th f aa sv sm tx ln ro ((nuS cd ln le 4 ai 0 0).1) (nuW le (nuS cd ln le 4 ai 0 0)) dg) t.heap; rw [ht, hwr, hq]; exact hP)⟩, hS.F ht⟩) hS.2.2 dX6_number_175
                        · have n_68 : ¬ (le ≤ v) := fun z => c_68 ((nI_leI (a := le) (b := v) (by omega) (by omega)).mpr z)
                          refine lv_iconst (v := 1) hx hb dX6_number_166 (by decide) ?_
                          refine lv_goto (tgt := 171) hx hb dX6_number_167 (by decide) ?_
                          refine w_put (C := RX6) (T := TX6) (N := 11) (ci := 6) (v := .int 1) (ty := .boolean) hx hb hts hin6 tyX6 tyX6_ok nmX6 hown hK hP hI hA hS 0 (by decide) rfl rfl 9 (by decide) (hts (.fieldLink RX6 115 "MixedBlocksModel" "isWrong" "Z") (List.mem_of_getElem? (i := 4) rfl)) (fun _ h9 => h9) rfl (by decide +kernel) rfl rfl (Nat.le_of_ble_eq_true rfl) dX6_number_171 (moF E g th f aa sv sm tx ln ro (ai2 + 0) true dg) rfl mo_ne0 (fun H_70 locs_70 hP hS => ?_)
                          refine lv_iload_n hx hb dX6_number_174 rfl (lv_at hl 2 rfl) ?_
                          have hwr : nuW le (nuS cd ln le 4 ai 0 0) = true := by rw [hq]; exact decide_eq_true (by show d = 0 ∨ v < le; omega)
                          exact W.iret (v := (nI v)) hx hb hr (fun t ht hW => ⟨⟨_, (), rfl, (by show _ = _; rw [hq]), (by show wP E 6 g (moF E g th f aa sv sm tx ln ro ((nuS cd ln le 4 ai 0 0).1) (nuW le (nuS cd ln le 4 ai 0 0)) dg) t.heap; rw [ht, hwr, hq]; exact hP)⟩, hS.F ht⟩) hS.2.2 dX6_number_175
                  · exact absurd rfl c_64
                · exact absurd rfl c_62
              · exact absurd rfl c_61
            · exact absurd rfl c_60
          · have hcc := inB_c2 (bI_1 c_59) (by omega)
            refine lv_iload_n hx hb dX6_number_50 rfl (lv_at hl 3 rfl) ?_
            refine lv_iconst (v := 4) hx hb dX6_number_51 (by decide) ?_
            refine lv_icmp_ge (tgt := 87) hx hb dX6_number_52 (by decide) (fun c_71 => ?_) (fun c_71 => ?_)
            · have n_71 : 4 ≤ d := (nI_leI (a := 4) (b := d) (by omega) (by omega)).mp c_71
              refine lv_iconst (v := 0) hx hb dX6_number_87 (by decide) ?_
              refine lv_istore (lv' := [(6, .int 0), (5, .int (nI (cd ai2))), (4, .int 1), (2, .int (nI v)), (3, .int (nI d)), (0, .ref ((g 0))), (1, .int (nI le))]) hx hb dX6_number_88 hl (by decide) rfl (fun ls hl => ?_)
              refine lv_iload hx hb dX6_number_90 (lv_at hl 0 rfl) ?_
              refine lv_if_eq (tgt := 108) hx hb dX6_number_92 (by decide) (fun c_72 => ?_) (fun c_72 => ?_)
              · refine lv_iload_n hx hb dX6_number_108 rfl (lv_at hl 3 rfl) ?_
                refine lv_istore_n (lv' := [(2, .int (nI v)), (6, .int 0), (5, .int (nI (cd ai2))), (4, .int 1), (3, .int (nI d)), (0, .ref ((g 0))), (1, .int (nI le))]) hx hb dX6_number_109 rfl hl (by decide) rfl (fun ls hl => ?_)
                refine lv_iload_n hx hb dX6_number_110 rfl (lv_at hl 4 rfl) ?_
                refine lv_iload hx hb dX6_number_111 (lv_at hl 1 rfl) ?_
                refine lv_if_eq (tgt := 120) hx hb dX6_number_113 (by decide) (fun c_73 => ?_) (fun c_73 => ?_)
                · refine lv_iconst (v := 0) hx hb dX6_number_120 (by decide) ?_
                  refine lv_iadd hx hb dX6_number_121 ?_
                  rw [show (nI d) + 0 = nI (d + 0) from nI_add d 0]
                  refine lv_istore_n (lv' := [(3, .int (nI (d + 0))), (2, .int (nI v)), (6, .int 0), (5, .int (nI (cd ai2))), (4, .int 1), (0, .ref ((g 0))), (1, .int (nI le))]) hx hb dX6_number_122 rfl hl (by decide) rfl (fun ls hl => ?_)
                  refine lv_aload_n hx hb dX6_number_123 rfl (lv_at hl 5 rfl) ?_
                  refine lv_dup hx hb dX6_number_124 rfl ?_
                  refine w_get (C := RX6) (T := TX6) (N := 11) (ci := 6) (v := .int (nI ai2)) hx hb hts hin6 hown hK hP 0 (by decide) rfl rfl 8 (by decide) (hts (.fieldLink RX6 109 "MixedBlocksModel" "at" "I") (List.mem_of_getElem? (i := 1) rfl)) (fun _ h9 => h9) rfl dX6_number_125 ?_
                  refine lv_iload hx hb dX6_number_128 (lv_at hl 2 rfl) ?_
                  refine lv_if_eq (tgt := 137) hx hb dX6_number_130 (by decide) (fun c_74 => ?_) (fun c_74 => ?_)
                  · refine lv_iconst (v := 0) hx hb dX6_number_137 (by decide) ?_
                    refine lv_iadd hx hb dX6_number_138 ?_
                    rw [show (nI ai2) + 0 = nI (ai2 + 0) from nI_add ai2 0]
                    refine w_put (C := RX6) (T := TX6) (N := 11) (ci := 6) (v := .int (nI (ai2 + 0))) (ty := .int) hx hb hts hin6 tyX6 tyX6_ok nmX6 hown hK hP hI hA hS 0 (by decide) rfl rfl 8 (by decide) (hts (.fieldLink RX6 109 "MixedBlocksModel" "at" "I") (List.mem_of_getElem? (i := 1) rfl)) (fun _ h9 => h9) rfl (by decide +kernel) rfl rfl (Nat.le_of_ble_eq_true rfl) dX6_number_139 (moF E g th f aa sv sm tx ln ro (ai2 + 0) false dg) rfl mo_ne0 (fun H_75 locs_75 hP hS => ?_)
                    refine lv_iload hx hb dX6_number_142 (lv_at hl 2 rfl) ?_
                    refine lv_istore (lv' := [(4, .int 0), (3, .int (nI (d + 0))), (2, .int (nI v)), (6, .int 0), (5, .int (nI (cd ai2))), (0, .ref ((g 0))), (1, .int (nI le))]) hx hb dX6_number_144 hl (by decide) rfl (fun ls hl => ?_)
                    refine lv_goto (tgt := 7) hx hb dX6_number_146 (by decide) ?_
                    have hno : nuO cd ln le ai2 v d = false := decide_eq_false (fun z => absurd z.2.2.1 (by omega))
                    have hq := hres.symm.trans (nuS_n hno)
                    refine lv_iload hx hb dX6_number_7 (lv_at hl 0 rfl) ?_
                    refine lv_if_eq (tgt := 149) hx hb dX6_number_9 (by decide) (fun c_76 => ?_) (fun c_76 => ?_)
                    · refine lv_aload_n hx hb dX6_number_149 rfl (lv_at hl 5 rfl) ?_
                      refine lv_aload_n hx hb dX6_number_150 rfl (lv_at hl 5 rfl) ?_
                      refine w_get (C := RX6) (T := TX6) (N := 11) (ci := 6) (v := .int ((bI false))) hx hb hts hin6 hown hK hP 0 (by decide) rfl rfl 9 (by decide) (hts (.fieldLink RX6 115 "MixedBlocksModel" "isWrong" "Z") (List.mem_of_getElem? (i := 4) rfl)) (fun _ h9 => h9) rfl dX6_number_151 ?_
                      refine lv_if_ne (tgt := 166) hx hb dX6_number_154 (by decide) (fun c_77 => ?_) (fun c_77 => ?_)
                      · exact absurd rfl c_77
                      · refine lv_iload_n hx hb dX6_number_157 rfl (lv_at hl 1 rfl) ?_
                        refine lv_if_eq (tgt := 166) hx hb dX6_number_158 (by decide) (fun c_78 => ?_) (fun c_78 => ?_)
                        · have n_78 : (d + 0) = 0 := (nI_eq (a := (d + 0)) (b := 0) (by omega) (by omega)).mp c_78
                          refine lv_iconst (v := 1) hx hb dX6_number_166 (by decide) ?_
                          refine lv_goto (tgt := 171) hx hb dX6_number_167 (by decide) ?_
                          refine w_put (C := RX6) (T := TX6) (N := 11) (ci := 6) (v := .int 1) (ty := .boolean) hx hb hts hin6 tyX6 tyX6_ok nmX6 hown hK hP hI hA hS 0 (by decide) rfl rfl 9 (by decide) (hts (.fieldLink RX6 115 "MixedBlocksModel" "isWrong" "Z") (List.mem_of_getElem? (i := 4) rfl)) (fun _ h9 => h9) rfl (by decide +kernel) rfl rfl (Nat.le_of_ble_eq_true rfl) dX6_number_171 (moF E g th f aa sv sm tx ln ro (ai2 + 0) true dg) rfl mo_ne0 (fun H_79 locs_79 hP hS => ?_)
                          refine lv_iload_n hx hb dX6_number_174 rfl (lv_at hl 2 rfl) ?_
                          have hwr : nuW le (nuS cd ln le 4 ai 0 0) = true := by rw [hq]; exact decide_eq_true (by show d = 0 ∨ v < le; omega)
                          exact W.iret (v := (nI v)) hx hb hr (fun t ht hW => ⟨⟨_, (), rfl, (by show _ = _; rw [hq]), (by show wP E 6 g (moF E g th f aa sv sm tx ln ro ((nuS cd ln le 4 ai 0 0).1) (nuW le (nuS cd ln le 4 ai 0 0)) dg) t.heap; rw [ht, hwr, hq]; exact hP)⟩, hS.F ht⟩) hS.2.2 dX6_number_175
                        · have n_78 : ¬ ((d + 0) = 0) := fun z => c_78 ((nI_eq (a := (d + 0)) (b := 0) (by omega) (by omega)).mpr z)
                          refine lv_iload_n hx hb dX6_number_161 rfl (lv_at hl 2 rfl) ?_
                          refine lv_iload_n hx hb dX6_number_162 rfl (lv_at hl 6 rfl) ?_
                          refine lv_icmp_ge (tgt := 170) hx hb dX6_number_163 (by decide) (fun c_80 => ?_) (fun c_80 => ?_)
                          · have n_80 : le ≤ v := (nI_leI (a := le) (b := v) (by omega) (by omega)).mp c_80
                            refine lv_iconst (v := 0) hx hb dX6_number_170 (by decide) ?_
                            refine w_put (C := RX6) (T := TX6) (N := 11) (ci := 6) (v := .int 0) (ty := .boolean) hx hb hts hin6 tyX6 tyX6_ok nmX6 hown hK hP hI hA hS 0 (by decide) rfl rfl 9 (by decide) (hts (.fieldLink RX6 115 "MixedBlocksModel" "isWrong" "Z") (List.mem_of_getElem? (i := 4) rfl)) (fun _ h9 => h9) rfl (by decide +kernel) rfl rfl (Nat.le_of_ble_eq_true rfl) dX6_number_171 (moF E g th f aa sv sm tx ln ro (ai2 + 0) false dg) rfl mo_ne0 (fun H_81 locs_81 hP hS => ?_)
                            refine lv_iload_n hx hb dX6_number_174 rfl (lv_at hl 2 rfl) ?_
                            have hwr : nuW le (nuS cd ln le 4 ai 0 0) = false := by rw [hq]; exact decide_eq_false (by show ¬ (d = 0 ∨ v < le); omega)
                            exact W.iret (v := (nI v)) hx hb hr (fun t ht hW => ⟨⟨_, (), rfl, (by show _ = _; rw [hq]), (by show wP E 6 g (moF E g th f aa sv sm tx ln ro ((nuS cd ln le 4 ai 0 0).1) (nuW le (nuS cd ln le 4 ai 0 0)) dg) t.heap; rw [ht, hwr, hq]; exact hP)⟩, hS.F ht⟩) hS.2.2 dX6_number_175
                          · have n_80 : ¬ (le ≤ v) := fun z => c_80 ((nI_leI (a := le) (b := v) (by omega) (by omega)).mpr z)
                            refine lv_iconst (v := 1) hx hb dX6_number_166 (by decide) ?_
                            refine lv_goto (tgt := 171) hx hb dX6_number_167 (by decide) ?_
                            refine w_put (C := RX6) (T := TX6) (N := 11) (ci := 6) (v := .int 1) (ty := .boolean) hx hb hts hin6 tyX6 tyX6_ok nmX6 hown hK hP hI hA hS 0 (by decide) rfl rfl 9 (by decide) (hts (.fieldLink RX6 115 "MixedBlocksModel" "isWrong" "Z") (List.mem_of_getElem? (i := 4) rfl)) (fun _ h9 => h9) rfl (by decide +kernel) rfl rfl (Nat.le_of_ble_eq_true rfl) dX6_number_171 (moF E g th f aa sv sm tx ln ro (ai2 + 0) true dg) rfl mo_ne0 (fun H_82 locs_82 hP hS => ?_)
                            refine lv_iload_n hx hb dX6_number_174 rfl (lv_at hl 2 rfl) ?_
                            have hwr : nuW le (nuS cd ln le 4 ai 0 0) = true := by rw [hq]; exact decide_eq_true (by show d = 0 ∨ v < le; omega)
                            exact W.iret (v := (nI v)) hx hb hr (fun t ht hW => ⟨⟨_, (), rfl, (by show _ = _; rw [hq]), (by show wP E 6 g (moF E g th f aa sv sm tx ln ro ((nuS cd ln le 4 ai 0 0).1) (nuW le (nuS cd ln le 4 ai 0 0)) dg) t.heap; rw [ht, hwr, hq]; exact hP)⟩, hS.F ht⟩) hS.2.2 dX6_number_175
                    · exact absurd rfl c_76
                  · exact absurd rfl c_74
                · exact absurd rfl c_73
              · exact absurd rfl c_72
            · have n_71 : ¬ (4 ≤ d) := fun z => c_71 ((nI_leI (a := 4) (b := d) (by omega) (by omega)).mpr z)
              refine lv_iload_n hx hb dX6_number_55 rfl (lv_at hl 3 rfl) ?_
              refine lv_if_eq (tgt := 63) hx hb dX6_number_56 (by decide) (fun c_83 => ?_) (fun c_83 => ?_)
              · have n_83 : d = 0 := (nI_eq (a := d) (b := 0) (by omega) (by omega)).mp c_83
                refine lv_bipush (v := 10) hx hb dX6_number_63 (by decide) ?_
                refine lv_iload_n hx hb dX6_number_65 rfl (lv_at hl 2 rfl) ?_
                refine lv_imul hx hb dX6_number_66 ?_
                rw [show 10 * (nI v) = nI (10 * v) from pk_mul 10 v]
                refine lv_iload hx hb dX6_number_67 (lv_at hl 0 rfl) ?_
                refine lv_iadd hx hb dX6_number_69 ?_
                rw [show (nI (10 * v)) + (nI (cd ai2)) = nI ((10 * v) + (cd ai2)) from nI_add (10 * v) (cd ai2)]
                refine lv_bipush (v := 48) hx hb dX6_number_70 (by decide) ?_
                refine lv_isub hx hb dX6_number_72 ?_
                rw [show (nI ((10 * v) + (cd ai2))) - 48 = nI (((10 * v) + (cd ai2)) - 48) from pk_sub (a := ((10 * v) + (cd ai2))) (b := 48) (by omega)]
                refine lv_iload_n hx hb dX6_number_73 rfl (lv_at hl 3 rfl) ?_
                refine lv_iconst (v := 1) hx hb dX6_number_74 (by decide) ?_
                refine lv_iadd hx hb dX6_number_75 ?_
                rw [show (nI d) + 1 = nI (d + 1) from nI_add d 1]
                refine lv_iload_n hx hb dX6_number_76 rfl (lv_at hl 5 rfl) ?_
                refine va_calli (va_runS (As := [.int (nI (((10 * v) + (cd ai2)) - 48)), .int (nI (d + 1)), .int (nI le)]) (rest := []) ⟨hx, hb, hml, hown, hts⟩ (c_X6_canReach l (((10 * v) + (cd ai2)) - 48) (d + 1) le (by omega) (by omega) (by omega)) (va_cwS 3 hts gX6_number_X6_canReach rfl rfl rfl (by decide +kernel) ⟨Nat.le_of_ble_eq_true rfl, Nat.le_of_ble_eq_true rfl⟩) ⟨wU_blind, fun U hU hW => ⟨rfl, trivial⟩⟩ rfl rfl hl.1 rfl (lv_room (Nat.le_of_ble_eq_true rfl)) dX6_number_77 ⟨Nat.zero_le _, Nat.zero_le _⟩) hS (fun q _ h => h.elim) (fun q h => h.elim) (fun r_84 uu t H_84 locs_84 ht hvm hw hB hz1 hk1 hS => ?_)
                have hP := hP.same hk1
                obtain rfl : r_84 = (bI (decide (¬ nI (grN (((10 * v) + (cd ai2)) - 48) (d + 1)) < nI le))) := hw
                refine lv_if_eq (tgt := 87) hx hb dX6_number_80 (by decide) (fun c_85 => ?_) (fun c_85 => ?_)
                · refine lv_iconst (v := 0) hx hb dX6_number_87 (by decide) ?_
                  refine lv_istore (lv' := [(6, .int 0), (5, .int (nI (cd ai2))), (4, .int 1), (2, .int (nI v)), (3, .int (nI d)), (0, .ref ((g 0))), (1, .int (nI le))]) hx hb dX6_number_88 hl (by decide) rfl (fun ls hl => ?_)
                  refine lv_iload hx hb dX6_number_90 (lv_at hl 0 rfl) ?_
                  refine lv_if_eq (tgt := 108) hx hb dX6_number_92 (by decide) (fun c_86 => ?_) (fun c_86 => ?_)
                  · refine lv_iload_n hx hb dX6_number_108 rfl (lv_at hl 3 rfl) ?_
                    refine lv_istore_n (lv' := [(2, .int (nI v)), (6, .int 0), (5, .int (nI (cd ai2))), (4, .int 1), (3, .int (nI d)), (0, .ref ((g 0))), (1, .int (nI le))]) hx hb dX6_number_109 rfl hl (by decide) rfl (fun ls hl => ?_)
                    refine lv_iload_n hx hb dX6_number_110 rfl (lv_at hl 4 rfl) ?_
                    refine lv_iload hx hb dX6_number_111 (lv_at hl 1 rfl) ?_
                    refine lv_if_eq (tgt := 120) hx hb dX6_number_113 (by decide) (fun c_87 => ?_) (fun c_87 => ?_)
                    · refine lv_iconst (v := 0) hx hb dX6_number_120 (by decide) ?_
                      refine lv_iadd hx hb dX6_number_121 ?_
                      rw [show (nI d) + 0 = nI (d + 0) from nI_add d 0]
                      refine lv_istore_n (lv' := [(3, .int (nI (d + 0))), (2, .int (nI v)), (6, .int 0), (5, .int (nI (cd ai2))), (4, .int 1), (0, .ref ((g 0))), (1, .int (nI le))]) hx hb dX6_number_122 rfl hl (by decide) rfl (fun ls hl => ?_)
                      refine lv_aload_n hx hb dX6_number_123 rfl (lv_at hl 5 rfl) ?_
                      refine lv_dup hx hb dX6_number_124 rfl ?_
                      refine w_get (C := RX6) (T := TX6) (N := 11) (ci := 6) (v := .int (nI ai2)) hx hb hts hin6 hown hK hP 0 (by decide) rfl rfl 8 (by decide) (hts (.fieldLink RX6 109 "MixedBlocksModel" "at" "I") (List.mem_of_getElem? (i := 1) rfl)) (fun _ h9 => h9) rfl dX6_number_125 ?_
                      refine lv_iload hx hb dX6_number_128 (lv_at hl 2 rfl) ?_
                      refine lv_if_eq (tgt := 137) hx hb dX6_number_130 (by decide) (fun c_88 => ?_) (fun c_88 => ?_)
                      · refine lv_iconst (v := 0) hx hb dX6_number_137 (by decide) ?_
                        refine lv_iadd hx hb dX6_number_138 ?_
                        rw [show (nI ai2) + 0 = nI (ai2 + 0) from nI_add ai2 0]
                        refine w_put (C := RX6) (T := TX6) (N := 11) (ci := 6) (v := .int (nI (ai2 + 0))) (ty := .int) hx hb hts hin6 tyX6 tyX6_ok nmX6 hown hK hP hI hA hS 0 (by decide) rfl rfl 8 (by decide) (hts (.fieldLink RX6 109 "MixedBlocksModel" "at" "I") (List.mem_of_getElem? (i := 1) rfl)) (fun _ h9 => h9) rfl (by decide +kernel) rfl rfl (Nat.le_of_ble_eq_true rfl) dX6_number_139 (moF E g th f aa sv sm tx ln ro (ai2 + 0) false dg) rfl mo_ne0 (fun H_89 locs_89 hP hS => ?_)
                        refine lv_iload hx hb dX6_number_142 (lv_at hl 2 rfl) ?_
                        refine lv_istore (lv' := [(4, .int 0), (3, .int (nI (d + 0))), (2, .int (nI v)), (6, .int 0), (5, .int (nI (cd ai2))), (0, .ref ((g 0))), (1, .int (nI le))]) hx hb dX6_number_144 hl (by decide) rfl (fun ls hl => ?_)
                        refine lv_goto (tgt := 7) hx hb dX6_number_146 (by decide) ?_
                        have hno : nuO cd ln le ai2 v d = false := decide_eq_false (fun z => absurd z.2.2.2.2 (of_decide_eq_false (bI_0 c_85)))
                        have hq := hres.symm.trans (nuS_n hno)
                        refine lv_iload hx hb dX6_number_7 (lv_at hl 0 rfl) ?_
                        refine lv_if_eq (tgt := 149) hx hb dX6_number_9 (by decide) (fun c_90 => ?_) (fun c_90 => ?_)
                        · refine lv_aload_n hx hb dX6_number_149 rfl (lv_at hl 5 rfl) ?_
                          refine lv_aload_n hx hb dX6_number_150 rfl (lv_at hl 5 rfl) ?_
                          refine w_get (C := RX6) (T := TX6) (N := 11) (ci := 6) (v := .int ((bI false))) hx hb hts hin6 hown hK hP 0 (by decide) rfl rfl 9 (by decide) (hts (.fieldLink RX6 115 "MixedBlocksModel" "isWrong" "Z") (List.mem_of_getElem? (i := 4) rfl)) (fun _ h9 => h9) rfl dX6_number_151 ?_
                          refine lv_if_ne (tgt := 166) hx hb dX6_number_154 (by decide) (fun c_91 => ?_) (fun c_91 => ?_)
                          · exact absurd rfl c_91
                          · refine lv_iload_n hx hb dX6_number_157 rfl (lv_at hl 1 rfl) ?_
                            refine lv_if_eq (tgt := 166) hx hb dX6_number_158 (by decide) (fun c_92 => ?_) (fun c_92 => ?_)
                            · have n_92 : (d + 0) = 0 := (nI_eq (a := (d + 0)) (b := 0) (by omega) (by omega)).mp c_92
                              refine lv_iconst (v := 1) hx hb dX6_number_166 (by decide) ?_
                              refine lv_goto (tgt := 171) hx hb dX6_number_167 (by decide) ?_
                              refine w_put (C := RX6) (T := TX6) (N := 11) (ci := 6) (v := .int 1) (ty := .boolean) hx hb hts hin6 tyX6 tyX6_ok nmX6 hown hK hP hI hA hS 0 (by decide) rfl rfl 9 (by decide) (hts (.fieldLink RX6 115 "MixedBlocksModel" "isWrong" "Z") (List.mem_of_getElem? (i := 4) rfl)) (fun _ h9 => h9) rfl (by decide +kernel) rfl rfl (Nat.le_of_ble_eq_true rfl) dX6_number_171 (moF E g th f aa sv sm tx ln ro (ai2 + 0) true dg) rfl mo_ne0 (fun H_93 locs_93 hP hS => ?_)
                              refine lv_iload_n hx hb dX6_number_174 rfl (lv_at hl 2 rfl) ?_
                              have hwr : nuW le (nuS cd ln le 4 ai 0 0) = true := by rw [hq]; exact decide_eq_true (by show d = 0 ∨ v < le; omega)
                              exact W.iret (v := (nI v)) hx hb hr (fun t ht hW => ⟨⟨_, (), rfl, (by show _ = _; rw [hq]), (by show wP E 6 g (moF E g th f aa sv sm tx ln ro ((nuS cd ln le 4 ai 0 0).1) (nuW le (nuS cd ln le 4 ai 0 0)) dg) t.heap; rw [ht, hwr, hq]; exact hP)⟩, hS.F ht⟩) hS.2.2 dX6_number_175
                            · have n_92 : ¬ ((d + 0) = 0) := fun z => c_92 ((nI_eq (a := (d + 0)) (b := 0) (by omega) (by omega)).mpr z)
                              refine lv_iload_n hx hb dX6_number_161 rfl (lv_at hl 2 rfl) ?_
                              refine lv_iload_n hx hb dX6_number_162 rfl (lv_at hl 6 rfl) ?_
                              refine lv_icmp_ge (tgt := 170) hx hb dX6_number_163 (by decide) (fun c_94 => ?_) (fun c_94 => ?_)
                              · have n_94 : le ≤ v := (nI_leI (a := le) (b := v) (by omega) (by omega)).mp c_94
                                refine lv_iconst (v := 0) hx hb dX6_number_170 (by decide) ?_
                                refine w_put (C := RX6) (T := TX6) (N := 11) (ci := 6) (v := .int 0) (ty := .boolean) hx hb hts hin6 tyX6 tyX6_ok nmX6 hown hK hP hI hA hS 0 (by decide) rfl rfl 9 (by decide) (hts (.fieldLink RX6 115 "MixedBlocksModel" "isWrong" "Z") (List.mem_of_getElem? (i := 4) rfl)) (fun _ h9 => h9) rfl (by decide +kernel) rfl rfl (Nat.le_of_ble_eq_true rfl) dX6_number_171 (moF E g th f aa sv sm tx ln ro (ai2 + 0) false dg) rfl mo_ne0 (fun H_95 locs_95 hP hS => ?_)
                                refine lv_iload_n hx hb dX6_number_174 rfl (lv_at hl 2 rfl) ?_
                                have hwr : nuW le (nuS cd ln le 4 ai 0 0) = false := by rw [hq]; exact decide_eq_false (by show ¬ (d = 0 ∨ v < le); omega)
                                exact W.iret (v := (nI v)) hx hb hr (fun t ht hW => ⟨⟨_, (), rfl, (by show _ = _; rw [hq]), (by show wP E 6 g (moF E g th f aa sv sm tx ln ro ((nuS cd ln le 4 ai 0 0).1) (nuW le (nuS cd ln le 4 ai 0 0)) dg) t.heap; rw [ht, hwr, hq]; exact hP)⟩, hS.F ht⟩) hS.2.2 dX6_number_175
                              · have n_94 : ¬ (le ≤ v) := fun z => c_94 ((nI_leI (a := le) (b := v) (by omega) (by omega)).mpr z)
                                refine lv_iconst (v := 1) hx hb dX6_number_166 (by decide) ?_
                                refine lv_goto (tgt := 171) hx hb dX6_number_167 (by decide) ?_
                                refine w_put (C := RX6) (T := TX6) (N := 11) (ci := 6) (v := .int 1) (ty := .boolean) hx hb hts hin6 tyX6 tyX6_ok nmX6 hown hK hP hI hA hS 0 (by decide) rfl rfl 9 (by decide) (hts (.fieldLink RX6 115 "MixedBlocksModel" "isWrong" "Z") (List.mem_of_getElem? (i := 4) rfl)) (fun _ h9 => h9) rfl (by decide +kernel) rfl rfl (Nat.le_of_ble_eq_true rfl) dX6_number_171 (moF E g th f aa sv sm tx ln ro (ai2 + 0) true dg) rfl mo_ne0 (fun H_96 locs_96 hP hS => ?_)
                                refine lv_iload_n hx hb dX6_number_174 rfl (lv_at hl 2 rfl) ?_
                                have hwr : nuW le (nuS cd ln le 4 ai 0 0) = true := by rw [hq]; exact decide_eq_true (by show d = 0 ∨ v < le; omega)
                                exact W.iret (v := (nI v)) hx hb hr (fun t ht hW => ⟨⟨_, (), rfl, (by show _ = _; rw [hq]), (by show wP E 6 g (moF E g th f aa sv sm tx ln ro ((nuS cd ln le 4 ai 0 0).1) (nuW le (nuS cd ln le 4 ai 0 0)) dg) t.heap; rw [ht, hwr, hq]; exact hP)⟩, hS.F ht⟩) hS.2.2 dX6_number_175
                        · exact absurd rfl c_90
                      · exact absurd rfl c_88
                    · exact absurd rfl c_87
                  · exact absurd rfl c_86
                · refine lv_iconst (v := 1) hx hb dX6_number_83 (by decide) ?_
                  refine lv_goto (tgt := 88) hx hb dX6_number_84 (by decide) ?_
                  refine lv_istore (lv' := [(6, .int 1), (5, .int (nI (cd ai2))), (4, .int 1), (2, .int (nI v)), (3, .int (nI d)), (0, .ref ((g 0))), (1, .int (nI le))]) hx hb dX6_number_88 hl (by decide) rfl (fun ls hl => ?_)
                  refine lv_iload hx hb dX6_number_90 (lv_at hl 0 rfl) ?_
                  refine lv_if_eq (tgt := 108) hx hb dX6_number_92 (by decide) (fun c_97 => ?_) (fun c_97 => ?_)
                  · exact absurd c_97 (by decide)
                  · refine lv_bipush (v := 10) hx hb dX6_number_95 (by decide) ?_
                    refine lv_iload_n hx hb dX6_number_97 rfl (lv_at hl 3 rfl) ?_
                    refine lv_imul hx hb dX6_number_98 ?_
                    rw [show 10 * (nI v) = nI (10 * v) from pk_mul 10 v]
                    refine lv_iload hx hb dX6_number_99 (lv_at hl 1 rfl) ?_
                    refine lv_iadd hx hb dX6_number_101 ?_
                    rw [show (nI (10 * v)) + (nI (cd ai2)) = nI ((10 * v) + (cd ai2)) from nI_add (10 * v) (cd ai2)]
                    refine lv_bipush (v := 48) hx hb dX6_number_102 (by decide) ?_
                    refine lv_isub hx hb dX6_number_104 ?_
                    rw [show (nI ((10 * v) + (cd ai2))) - 48 = nI (((10 * v) + (cd ai2)) - 48) from pk_sub (a := ((10 * v) + (cd ai2))) (b := 48) (by omega)]
                    refine lv_goto (tgt := 109) hx hb dX6_number_105 (by decide) ?_
                    refine lv_istore_n (lv' := [(2, .int (nI (((10 * v) + (cd ai2)) - 48))), (6, .int 1), (5, .int (nI (cd ai2))), (4, .int 1), (3, .int (nI d)), (0, .ref ((g 0))), (1, .int (nI le))]) hx hb dX6_number_109 rfl hl (by decide) rfl (fun ls hl => ?_)
                    refine lv_iload_n hx hb dX6_number_110 rfl (lv_at hl 4 rfl) ?_
                    refine lv_iload hx hb dX6_number_111 (lv_at hl 1 rfl) ?_
                    refine lv_if_eq (tgt := 120) hx hb dX6_number_113 (by decide) (fun c_98 => ?_) (fun c_98 => ?_)
                    · exact absurd c_98 (by decide)
                    · refine lv_iconst (v := 1) hx hb dX6_number_116 (by decide) ?_
                      refine lv_goto (tgt := 121) hx hb dX6_number_117 (by decide) ?_
                      refine lv_iadd hx hb dX6_number_121 ?_
                      rw [show (nI d) + 1 = nI (d + 1) from nI_add d 1]
                      refine lv_istore_n (lv' := [(3, .int (nI (d + 1))), (2, .int (nI (((10 * v) + (cd ai2)) - 48))), (6, .int 1), (5, .int (nI (cd ai2))), (4, .int 1), (0, .ref ((g 0))), (1, .int (nI le))]) hx hb dX6_number_122 rfl hl (by decide) rfl (fun ls hl => ?_)
                      refine lv_aload_n hx hb dX6_number_123 rfl (lv_at hl 5 rfl) ?_
                      refine lv_dup hx hb dX6_number_124 rfl ?_
                      refine w_get (C := RX6) (T := TX6) (N := 11) (ci := 6) (v := .int (nI ai2)) hx hb hts hin6 hown hK hP 0 (by decide) rfl rfl 8 (by decide) (hts (.fieldLink RX6 109 "MixedBlocksModel" "at" "I") (List.mem_of_getElem? (i := 1) rfl)) (fun _ h9 => h9) rfl dX6_number_125 ?_
                      refine lv_iload hx hb dX6_number_128 (lv_at hl 2 rfl) ?_
                      refine lv_if_eq (tgt := 137) hx hb dX6_number_130 (by decide) (fun c_99 => ?_) (fun c_99 => ?_)
                      · exact absurd c_99 (by decide)
                      · refine lv_iconst (v := 1) hx hb dX6_number_133 (by decide) ?_
                        refine lv_goto (tgt := 138) hx hb dX6_number_134 (by decide) ?_
                        refine lv_iadd hx hb dX6_number_138 ?_
                        rw [show (nI ai2) + 1 = nI (ai2 + 1) from nI_add ai2 1]
                        refine w_put (C := RX6) (T := TX6) (N := 11) (ci := 6) (v := .int (nI (ai2 + 1))) (ty := .int) hx hb hts hin6 tyX6 tyX6_ok nmX6 hown hK hP hI hA hS 0 (by decide) rfl rfl 8 (by decide) (hts (.fieldLink RX6 109 "MixedBlocksModel" "at" "I") (List.mem_of_getElem? (i := 1) rfl)) (fun _ h9 => h9) rfl (by decide +kernel) rfl rfl (Nat.le_of_ble_eq_true rfl) dX6_number_139 (moF E g th f aa sv sm tx ln ro (ai2 + 1) false dg) rfl mo_ne0 (fun H_100 locs_100 hP hS => ?_)
                        refine lv_iload hx hb dX6_number_142 (lv_at hl 2 rfl) ?_
                        refine lv_istore (lv' := [(4, .int 1), (3, .int (nI (d + 1))), (2, .int (nI (((10 * v) + (cd ai2)) - 48))), (6, .int 1), (5, .int (nI (cd ai2))), (0, .ref ((g 0))), (1, .int (nI le))]) hx hb dX6_number_144 hl (by decide) rfl (fun ls hl => ?_)
                        refine lv_goto (tgt := 7) hx hb dX6_number_146 (by decide) ?_
                        have hno : nuO cd ln le ai2 v d = true := decide_eq_true ⟨by omega, ⟨by omega, by omega⟩, by omega, by omega, of_decide_eq_true (bI_1 c_85)⟩
                        have hpw : (((10 * v) + (cd ai2)) - 48) + 1 ≤ 10 ^ (d + 1) := by rw [Nat.pow_succ]; omega
                        exact ihk (ai2 + 1) (((10 * v) + (cd ai2)) - 48) (d + 1) _ _ ls (by omega) hpw (by omega) ((nuS_y hno).symm.trans hres) hP hS (lv_sub hl [0, 2, 1, 5, 6] rfl)
              · have n_83 : ¬ (d = 0) := fun z => c_83 ((nI_eq (a := d) (b := 0) (by omega) (by omega)).mpr z)
                refine lv_iload_n hx hb dX6_number_59 rfl (lv_at hl 2 rfl) ?_
                refine lv_if_le (tgt := 87) hx hb dX6_number_60 (by decide) (fun c_101 => ?_) (fun c_101 => ?_)
                · have n_101 : v ≤ 0 := (nI_leI (a := v) (b := 0) (by omega) (by omega)).mp c_101
                  refine lv_iconst (v := 0) hx hb dX6_number_87 (by decide) ?_
                  refine lv_istore (lv' := [(6, .int 0), (5, .int (nI (cd ai2))), (4, .int 1), (2, .int (nI v)), (3, .int (nI d)), (0, .ref ((g 0))), (1, .int (nI le))]) hx hb dX6_number_88 hl (by decide) rfl (fun ls hl => ?_)
                  refine lv_iload hx hb dX6_number_90 (lv_at hl 0 rfl) ?_
                  refine lv_if_eq (tgt := 108) hx hb dX6_number_92 (by decide) (fun c_102 => ?_) (fun c_102 => ?_)
                  · refine lv_iload_n hx hb dX6_number_108 rfl (lv_at hl 3 rfl) ?_
                    refine lv_istore_n (lv' := [(2, .int (nI v)), (6, .int 0), (5, .int (nI (cd ai2))), (4, .int 1), (3, .int (nI d)), (0, .ref ((g 0))), (1, .int (nI le))]) hx hb dX6_number_109 rfl hl (by decide) rfl (fun ls hl => ?_)
                    refine lv_iload_n hx hb dX6_number_110 rfl (lv_at hl 4 rfl) ?_
                    refine lv_iload hx hb dX6_number_111 (lv_at hl 1 rfl) ?_
                    refine lv_if_eq (tgt := 120) hx hb dX6_number_113 (by decide) (fun c_103 => ?_) (fun c_103 => ?_)
                    · refine lv_iconst (v := 0) hx hb dX6_number_120 (by decide) ?_
                      refine lv_iadd hx hb dX6_number_121 ?_
                      rw [show (nI d) + 0 = nI (d + 0) from nI_add d 0]
                      refine lv_istore_n (lv' := [(3, .int (nI (d + 0))), (2, .int (nI v)), (6, .int 0), (5, .int (nI (cd ai2))), (4, .int 1), (0, .ref ((g 0))), (1, .int (nI le))]) hx hb dX6_number_122 rfl hl (by decide) rfl (fun ls hl => ?_)
                      refine lv_aload_n hx hb dX6_number_123 rfl (lv_at hl 5 rfl) ?_
                      refine lv_dup hx hb dX6_number_124 rfl ?_
                      refine w_get (C := RX6) (T := TX6) (N := 11) (ci := 6) (v := .int (nI ai2)) hx hb hts hin6 hown hK hP 0 (by decide) rfl rfl 8 (by decide) (hts (.fieldLink RX6 109 "MixedBlocksModel" "at" "I") (List.mem_of_getElem? (i := 1) rfl)) (fun _ h9 => h9) rfl dX6_number_125 ?_
                      refine lv_iload hx hb dX6_number_128 (lv_at hl 2 rfl) ?_
                      refine lv_if_eq (tgt := 137) hx hb dX6_number_130 (by decide) (fun c_104 => ?_) (fun c_104 => ?_)
                      · refine lv_iconst (v := 0) hx hb dX6_number_137 (by decide) ?_
                        refine lv_iadd hx hb dX6_number_138 ?_
                        rw [show (nI ai2) + 0 = nI (ai2 + 0) from nI_add ai2 0]
                        refine w_put (C := RX6) (T := TX6) (N := 11) (ci := 6) (v := .int (nI (ai2 + 0))) (ty := .int) hx hb hts hin6 tyX6 tyX6_ok nmX6 hown hK hP hI hA hS 0 (by decide) rfl rfl 8 (by decide) (hts (.fieldLink RX6 109 "MixedBlocksModel" "at" "I") (List.mem_of_getElem? (i := 1) rfl)) (fun _ h9 => h9) rfl (by decide +kernel) rfl rfl (Nat.le_of_ble_eq_true rfl) dX6_number_139 (moF E g th f aa sv sm tx ln ro (ai2 + 0) false dg) rfl mo_ne0 (fun H_105 locs_105 hP hS => ?_)
                        refine lv_iload hx hb dX6_number_142 (lv_at hl 2 rfl) ?_
                        refine lv_istore (lv' := [(4, .int 0), (3, .int (nI (d + 0))), (2, .int (nI v)), (6, .int 0), (5, .int (nI (cd ai2))), (0, .ref ((g 0))), (1, .int (nI le))]) hx hb dX6_number_144 hl (by decide) rfl (fun ls hl => ?_)
                        refine lv_goto (tgt := 7) hx hb dX6_number_146 (by decide) ?_
                        have hno : nuO cd ln le ai2 v d = false := decide_eq_false (fun z => absurd z.2.2.2.1 (by omega))
                        have hq := hres.symm.trans (nuS_n hno)
                        refine lv_iload hx hb dX6_number_7 (lv_at hl 0 rfl) ?_
                        refine lv_if_eq (tgt := 149) hx hb dX6_number_9 (by decide) (fun c_106 => ?_) (fun c_106 => ?_)
                        · refine lv_aload_n hx hb dX6_number_149 rfl (lv_at hl 5 rfl) ?_
                          refine lv_aload_n hx hb dX6_number_150 rfl (lv_at hl 5 rfl) ?_
                          refine w_get (C := RX6) (T := TX6) (N := 11) (ci := 6) (v := .int ((bI false))) hx hb hts hin6 hown hK hP 0 (by decide) rfl rfl 9 (by decide) (hts (.fieldLink RX6 115 "MixedBlocksModel" "isWrong" "Z") (List.mem_of_getElem? (i := 4) rfl)) (fun _ h9 => h9) rfl dX6_number_151 ?_
                          refine lv_if_ne (tgt := 166) hx hb dX6_number_154 (by decide) (fun c_107 => ?_) (fun c_107 => ?_)
                          · exact absurd rfl c_107
                          · refine lv_iload_n hx hb dX6_number_157 rfl (lv_at hl 1 rfl) ?_
                            refine lv_if_eq (tgt := 166) hx hb dX6_number_158 (by decide) (fun c_108 => ?_) (fun c_108 => ?_)
                            · have n_108 : (d + 0) = 0 := (nI_eq (a := (d + 0)) (b := 0) (by omega) (by omega)).mp c_108
                              refine lv_iconst (v := 1) hx hb dX6_number_166 (by decide) ?_
                              refine lv_goto (tgt := 171) hx hb dX6_number_167 (by decide) ?_
                              refine w_put (C := RX6) (T := TX6) (N := 11) (ci := 6) (v := .int 1) (ty := .boolean) hx hb hts hin6 tyX6 tyX6_ok nmX6 hown hK hP hI hA hS 0 (by decide) rfl rfl 9 (by decide) (hts (.fieldLink RX6 115 "MixedBlocksModel" "isWrong" "Z") (List.mem_of_getElem? (i := 4) rfl)) (fun _ h9 => h9) rfl (by decide +kernel) rfl rfl (Nat.le_of_ble_eq_true rfl) dX6_number_171 (moF E g th f aa sv sm tx ln ro (ai2 + 0) true dg) rfl mo_ne0 (fun H_109 locs_109 hP hS => ?_)
                              refine lv_iload_n hx hb dX6_number_174 rfl (lv_at hl 2 rfl) ?_
                              have hwr : nuW le (nuS cd ln le 4 ai 0 0) = true := by rw [hq]; exact decide_eq_true (by show d = 0 ∨ v < le; omega)
                              exact W.iret (v := (nI v)) hx hb hr (fun t ht hW => ⟨⟨_, (), rfl, (by show _ = _; rw [hq]), (by show wP E 6 g (moF E g th f aa sv sm tx ln ro ((nuS cd ln le 4 ai 0 0).1) (nuW le (nuS cd ln le 4 ai 0 0)) dg) t.heap; rw [ht, hwr, hq]; exact hP)⟩, hS.F ht⟩) hS.2.2 dX6_number_175
                            · have n_108 : ¬ ((d + 0) = 0) := fun z => c_108 ((nI_eq (a := (d + 0)) (b := 0) (by omega) (by omega)).mpr z)
                              refine lv_iload_n hx hb dX6_number_161 rfl (lv_at hl 2 rfl) ?_
                              refine lv_iload_n hx hb dX6_number_162 rfl (lv_at hl 6 rfl) ?_
                              refine lv_icmp_ge (tgt := 170) hx hb dX6_number_163 (by decide) (fun c_110 => ?_) (fun c_110 => ?_)
                              · have n_110 : le ≤ v := (nI_leI (a := le) (b := v) (by omega) (by omega)).mp c_110
                                refine lv_iconst (v := 0) hx hb dX6_number_170 (by decide) ?_
                                refine w_put (C := RX6) (T := TX6) (N := 11) (ci := 6) (v := .int 0) (ty := .boolean) hx hb hts hin6 tyX6 tyX6_ok nmX6 hown hK hP hI hA hS 0 (by decide) rfl rfl 9 (by decide) (hts (.fieldLink RX6 115 "MixedBlocksModel" "isWrong" "Z") (List.mem_of_getElem? (i := 4) rfl)) (fun _ h9 => h9) rfl (by decide +kernel) rfl rfl (Nat.le_of_ble_eq_true rfl) dX6_number_171 (moF E g th f aa sv sm tx ln ro (ai2 + 0) false dg) rfl mo_ne0 (fun H_111 locs_111 hP hS => ?_)
                                refine lv_iload_n hx hb dX6_number_174 rfl (lv_at hl 2 rfl) ?_
                                have hwr : nuW le (nuS cd ln le 4 ai 0 0) = false := by rw [hq]; exact decide_eq_false (by show ¬ (d = 0 ∨ v < le); omega)
                                exact W.iret (v := (nI v)) hx hb hr (fun t ht hW => ⟨⟨_, (), rfl, (by show _ = _; rw [hq]), (by show wP E 6 g (moF E g th f aa sv sm tx ln ro ((nuS cd ln le 4 ai 0 0).1) (nuW le (nuS cd ln le 4 ai 0 0)) dg) t.heap; rw [ht, hwr, hq]; exact hP)⟩, hS.F ht⟩) hS.2.2 dX6_number_175
                              · have n_110 : ¬ (le ≤ v) := fun z => c_110 ((nI_leI (a := le) (b := v) (by omega) (by omega)).mpr z)
                                refine lv_iconst (v := 1) hx hb dX6_number_166 (by decide) ?_
                                refine lv_goto (tgt := 171) hx hb dX6_number_167 (by decide) ?_
                                refine w_put (C := RX6) (T := TX6) (N := 11) (ci := 6) (v := .int 1) (ty := .boolean) hx hb hts hin6 tyX6 tyX6_ok nmX6 hown hK hP hI hA hS 0 (by decide) rfl rfl 9 (by decide) (hts (.fieldLink RX6 115 "MixedBlocksModel" "isWrong" "Z") (List.mem_of_getElem? (i := 4) rfl)) (fun _ h9 => h9) rfl (by decide +kernel) rfl rfl (Nat.le_of_ble_eq_true rfl) dX6_number_171 (moF E g th f aa sv sm tx ln ro (ai2 + 0) true dg) rfl mo_ne0 (fun H_112 locs_112 hP hS => ?_)
                                refine lv_iload_n hx hb dX6_number_174 rfl (lv_at hl 2 rfl) ?_
                                have hwr : nuW le (nuS cd ln le 4 ai 0 0) = true := by rw [hq]; exact decide_eq_true (by show d = 0 ∨ v < le; omega)
                                exact W.iret (v := (nI v)) hx hb hr (fun t ht hW => ⟨⟨_, (), rfl, (by show _ = _; rw [hq]), (by show wP E 6 g (moF E g th f aa sv sm tx ln ro ((nuS cd ln le 4 ai 0 0).1) (nuW le (nuS cd ln le 4 ai 0 0)) dg) t.heap; rw [ht, hwr, hq]; exact hP)⟩, hS.F ht⟩) hS.2.2 dX6_number_175
                        · exact absurd rfl c_106
                      · exact absurd rfl c_104
                    · exact absurd rfl c_103
                  · exact absurd rfl c_102
                · have n_101 : ¬ (v ≤ 0) := fun z => c_101 ((nI_leI (a := v) (b := 0) (by omega) (by omega)).mpr z)
                  refine lv_bipush (v := 10) hx hb dX6_number_63 (by decide) ?_
                  refine lv_iload_n hx hb dX6_number_65 rfl (lv_at hl 2 rfl) ?_
                  refine lv_imul hx hb dX6_number_66 ?_
                  rw [show 10 * (nI v) = nI (10 * v) from pk_mul 10 v]
                  refine lv_iload hx hb dX6_number_67 (lv_at hl 0 rfl) ?_
                  refine lv_iadd hx hb dX6_number_69 ?_
                  rw [show (nI (10 * v)) + (nI (cd ai2)) = nI ((10 * v) + (cd ai2)) from nI_add (10 * v) (cd ai2)]
                  refine lv_bipush (v := 48) hx hb dX6_number_70 (by decide) ?_
                  refine lv_isub hx hb dX6_number_72 ?_
                  rw [show (nI ((10 * v) + (cd ai2))) - 48 = nI (((10 * v) + (cd ai2)) - 48) from pk_sub (a := ((10 * v) + (cd ai2))) (b := 48) (by omega)]
                  refine lv_iload_n hx hb dX6_number_73 rfl (lv_at hl 3 rfl) ?_
                  refine lv_iconst (v := 1) hx hb dX6_number_74 (by decide) ?_
                  refine lv_iadd hx hb dX6_number_75 ?_
                  rw [show (nI d) + 1 = nI (d + 1) from nI_add d 1]
                  refine lv_iload_n hx hb dX6_number_76 rfl (lv_at hl 5 rfl) ?_
                  refine va_calli (va_runS (As := [.int (nI (((10 * v) + (cd ai2)) - 48)), .int (nI (d + 1)), .int (nI le)]) (rest := []) ⟨hx, hb, hml, hown, hts⟩ (c_X6_canReach l (((10 * v) + (cd ai2)) - 48) (d + 1) le (by omega) (by omega) (by omega)) (va_cwS 3 hts gX6_number_X6_canReach rfl rfl rfl (by decide +kernel) ⟨Nat.le_of_ble_eq_true rfl, Nat.le_of_ble_eq_true rfl⟩) ⟨wU_blind, fun U hU hW => ⟨rfl, trivial⟩⟩ rfl rfl hl.1 rfl (lv_room (Nat.le_of_ble_eq_true rfl)) dX6_number_77 ⟨Nat.zero_le _, Nat.zero_le _⟩) hS (fun q _ h => h.elim) (fun q h => h.elim) (fun r_113 uu t H_113 locs_113 ht hvm hw hB hz1 hk1 hS => ?_)
                  have hP := hP.same hk1
                  obtain rfl : r_113 = (bI (decide (¬ nI (grN (((10 * v) + (cd ai2)) - 48) (d + 1)) < nI le))) := hw
                  refine lv_if_eq (tgt := 87) hx hb dX6_number_80 (by decide) (fun c_114 => ?_) (fun c_114 => ?_)
                  · refine lv_iconst (v := 0) hx hb dX6_number_87 (by decide) ?_
                    refine lv_istore (lv' := [(6, .int 0), (5, .int (nI (cd ai2))), (4, .int 1), (2, .int (nI v)), (3, .int (nI d)), (0, .ref ((g 0))), (1, .int (nI le))]) hx hb dX6_number_88 hl (by decide) rfl (fun ls hl => ?_)
                    refine lv_iload hx hb dX6_number_90 (lv_at hl 0 rfl) ?_
                    refine lv_if_eq (tgt := 108) hx hb dX6_number_92 (by decide) (fun c_115 => ?_) (fun c_115 => ?_)
                    · refine lv_iload_n hx hb dX6_number_108 rfl (lv_at hl 3 rfl) ?_
                      refine lv_istore_n (lv' := [(2, .int (nI v)), (6, .int 0), (5, .int (nI (cd ai2))), (4, .int 1), (3, .int (nI d)), (0, .ref ((g 0))), (1, .int (nI le))]) hx hb dX6_number_109 rfl hl (by decide) rfl (fun ls hl => ?_)
                      refine lv_iload_n hx hb dX6_number_110 rfl (lv_at hl 4 rfl) ?_
                      refine lv_iload hx hb dX6_number_111 (lv_at hl 1 rfl) ?_
                      refine lv_if_eq (tgt := 120) hx hb dX6_number_113 (by decide) (fun c_116 => ?_) (fun c_116 => ?_)
                      · refine lv_iconst (v := 0) hx hb dX6_number_120 (by decide) ?_
                        refine lv_iadd hx hb dX6_number_121 ?_
                        rw [show (nI d) + 0 = nI (d + 0) from nI_add d 0]
                        refine lv_istore_n (lv' := [(3, .int (nI (d + 0))), (2, .int (nI v)), (6, .int 0), (5, .int (nI (cd ai2))), (4, .int 1), (0, .ref ((g 0))), (1, .int (nI le))]) hx hb dX6_number_122 rfl hl (by decide) rfl (fun ls hl => ?_)
                        refine lv_aload_n hx hb dX6_number_123 rfl (lv_at hl 5 rfl) ?_
                        refine lv_dup hx hb dX6_number_124 rfl ?_
                        refine w_get (C := RX6) (T := TX6) (N := 11) (ci := 6) (v := .int (nI ai2)) hx hb hts hin6 hown hK hP 0 (by decide) rfl rfl 8 (by decide) (hts (.fieldLink RX6 109 "MixedBlocksModel" "at" "I") (List.mem_of_getElem? (i := 1) rfl)) (fun _ h9 => h9) rfl dX6_number_125 ?_
                        refine lv_iload hx hb dX6_number_128 (lv_at hl 2 rfl) ?_
                        refine lv_if_eq (tgt := 137) hx hb dX6_number_130 (by decide) (fun c_117 => ?_) (fun c_117 => ?_)
                        · refine lv_iconst (v := 0) hx hb dX6_number_137 (by decide) ?_
                          refine lv_iadd hx hb dX6_number_138 ?_
                          rw [show (nI ai2) + 0 = nI (ai2 + 0) from nI_add ai2 0]
                          refine w_put (C := RX6) (T := TX6) (N := 11) (ci := 6) (v := .int (nI (ai2 + 0))) (ty := .int) hx hb hts hin6 tyX6 tyX6_ok nmX6 hown hK hP hI hA hS 0 (by decide) rfl rfl 8 (by decide) (hts (.fieldLink RX6 109 "MixedBlocksModel" "at" "I") (List.mem_of_getElem? (i := 1) rfl)) (fun _ h9 => h9) rfl (by decide +kernel) rfl rfl (Nat.le_of_ble_eq_true rfl) dX6_number_139 (moF E g th f aa sv sm tx ln ro (ai2 + 0) false dg) rfl mo_ne0 (fun H_118 locs_118 hP hS => ?_)
                          refine lv_iload hx hb dX6_number_142 (lv_at hl 2 rfl) ?_
                          refine lv_istore (lv' := [(4, .int 0), (3, .int (nI (d + 0))), (2, .int (nI v)), (6, .int 0), (5, .int (nI (cd ai2))), (0, .ref ((g 0))), (1, .int (nI le))]) hx hb dX6_number_144 hl (by decide) rfl (fun ls hl => ?_)
                          refine lv_goto (tgt := 7) hx hb dX6_number_146 (by decide) ?_
                          have hno : nuO cd ln le ai2 v d = false := decide_eq_false (fun z => absurd z.2.2.2.2 (of_decide_eq_false (bI_0 c_114)))
                          have hq := hres.symm.trans (nuS_n hno)
                          refine lv_iload hx hb dX6_number_7 (lv_at hl 0 rfl) ?_
                          refine lv_if_eq (tgt := 149) hx hb dX6_number_9 (by decide) (fun c_119 => ?_) (fun c_119 => ?_)
                          · refine lv_aload_n hx hb dX6_number_149 rfl (lv_at hl 5 rfl) ?_
                            refine lv_aload_n hx hb dX6_number_150 rfl (lv_at hl 5 rfl) ?_
                            refine w_get (C := RX6) (T := TX6) (N := 11) (ci := 6) (v := .int ((bI false))) hx hb hts hin6 hown hK hP 0 (by decide) rfl rfl 9 (by decide) (hts (.fieldLink RX6 115 "MixedBlocksModel" "isWrong" "Z") (List.mem_of_getElem? (i := 4) rfl)) (fun _ h9 => h9) rfl dX6_number_151 ?_
                            refine lv_if_ne (tgt := 166) hx hb dX6_number_154 (by decide) (fun c_120 => ?_) (fun c_120 => ?_)
                            · exact absurd rfl c_120
                            · refine lv_iload_n hx hb dX6_number_157 rfl (lv_at hl 1 rfl) ?_
                              refine lv_if_eq (tgt := 166) hx hb dX6_number_158 (by decide) (fun c_121 => ?_) (fun c_121 => ?_)
                              · have n_121 : (d + 0) = 0 := (nI_eq (a := (d + 0)) (b := 0) (by omega) (by omega)).mp c_121
                                refine lv_iconst (v := 1) hx hb dX6_number_166 (by decide) ?_
                                refine lv_goto (tgt := 171) hx hb dX6_number_167 (by decide) ?_
                                refine w_put (C := RX6) (T := TX6) (N := 11) (ci := 6) (v := .int 1) (ty := .boolean) hx hb hts hin6 tyX6 tyX6_ok nmX6 hown hK hP hI hA hS 0 (by decide) rfl rfl 9 (by decide) (hts (.fieldLink RX6 115 "MixedBlocksModel" "isWrong" "Z") (List.mem_of_getElem? (i := 4) rfl)) (fun _ h9 => h9) rfl (by decide +kernel) rfl rfl (Nat.le_of_ble_eq_true rfl) dX6_number_171 (moF E g th f aa sv sm tx ln ro (ai2 + 0) true dg) rfl mo_ne0 (fun H_122 locs_122 hP hS => ?_)
                                refine lv_iload_n hx hb dX6_number_174 rfl (lv_at hl 2 rfl) ?_
                                have hwr : nuW le (nuS cd ln le 4 ai 0 0) = true := by rw [hq]; exact decide_eq_true (by show d = 0 ∨ v < le; omega)
                                exact W.iret (v := (nI v)) hx hb hr (fun t ht hW => ⟨⟨_, (), rfl, (by show _ = _; rw [hq]), (by show wP E 6 g (moF E g th f aa sv sm tx ln ro ((nuS cd ln le 4 ai 0 0).1) (nuW le (nuS cd ln le 4 ai 0 0)) dg) t.heap; rw [ht, hwr, hq]; exact hP)⟩, hS.F ht⟩) hS.2.2 dX6_number_175
                              · have n_121 : ¬ ((d + 0) = 0) := fun z => c_121 ((nI_eq (a := (d + 0)) (b := 0) (by omega) (by omega)).mpr z)
                                refine lv_iload_n hx hb dX6_number_161 rfl (lv_at hl 2 rfl) ?_
                                refine lv_iload_n hx hb dX6_number_162 rfl (lv_at hl 6 rfl) ?_
                                refine lv_icmp_ge (tgt := 170) hx hb dX6_number_163 (by decide) (fun c_123 => ?_) (fun c_123 => ?_)
                                · have n_123 : le ≤ v := (nI_leI (a := le) (b := v) (by omega) (by omega)).mp c_123
                                  refine lv_iconst (v := 0) hx hb dX6_number_170 (by decide) ?_
                                  refine w_put (C := RX6) (T := TX6) (N := 11) (ci := 6) (v := .int 0) (ty := .boolean) hx hb hts hin6 tyX6 tyX6_ok nmX6 hown hK hP hI hA hS 0 (by decide) rfl rfl 9 (by decide) (hts (.fieldLink RX6 115 "MixedBlocksModel" "isWrong" "Z") (List.mem_of_getElem? (i := 4) rfl)) (fun _ h9 => h9) rfl (by decide +kernel) rfl rfl (Nat.le_of_ble_eq_true rfl) dX6_number_171 (moF E g th f aa sv sm tx ln ro (ai2 + 0) false dg) rfl mo_ne0 (fun H_124 locs_124 hP hS => ?_)
                                  refine lv_iload_n hx hb dX6_number_174 rfl (lv_at hl 2 rfl) ?_
                                  have hwr : nuW le (nuS cd ln le 4 ai 0 0) = false := by rw [hq]; exact decide_eq_false (by show ¬ (d = 0 ∨ v < le); omega)
                                  exact W.iret (v := (nI v)) hx hb hr (fun t ht hW => ⟨⟨_, (), rfl, (by show _ = _; rw [hq]), (by show wP E 6 g (moF E g th f aa sv sm tx ln ro ((nuS cd ln le 4 ai 0 0).1) (nuW le (nuS cd ln le 4 ai 0 0)) dg) t.heap; rw [ht, hwr, hq]; exact hP)⟩, hS.F ht⟩) hS.2.2 dX6_number_175
                                · have n_123 : ¬ (le ≤ v) := fun z => c_123 ((nI_leI (a := le) (b := v) (by omega) (by omega)).mpr z)
                                  refine lv_iconst (v := 1) hx hb dX6_number_166 (by decide) ?_
                                  refine lv_goto (tgt := 171) hx hb dX6_number_167 (by decide) ?_
                                  refine w_put (C := RX6) (T := TX6) (N := 11) (ci := 6) (v := .int 1) (ty := .boolean) hx hb hts hin6 tyX6 tyX6_ok nmX6 hown hK hP hI hA hS 0 (by decide) rfl rfl 9 (by decide) (hts (.fieldLink RX6 115 "MixedBlocksModel" "isWrong" "Z") (List.mem_of_getElem? (i := 4) rfl)) (fun _ h9 => h9) rfl (by decide +kernel) rfl rfl (Nat.le_of_ble_eq_true rfl) dX6_number_171 (moF E g th f aa sv sm tx ln ro (ai2 + 0) true dg) rfl mo_ne0 (fun H_125 locs_125 hP hS => ?_)
                                  refine lv_iload_n hx hb dX6_number_174 rfl (lv_at hl 2 rfl) ?_
                                  have hwr : nuW le (nuS cd ln le 4 ai 0 0) = true := by rw [hq]; exact decide_eq_true (by show d = 0 ∨ v < le; omega)
                                  exact W.iret (v := (nI v)) hx hb hr (fun t ht hW => ⟨⟨_, (), rfl, (by show _ = _; rw [hq]), (by show wP E 6 g (moF E g th f aa sv sm tx ln ro ((nuS cd ln le 4 ai 0 0).1) (nuW le (nuS cd ln le 4 ai 0 0)) dg) t.heap; rw [ht, hwr, hq]; exact hP)⟩, hS.F ht⟩) hS.2.2 dX6_number_175
                          · exact absurd rfl c_119
                        · exact absurd rfl c_117
                      · exact absurd rfl c_116
                    · exact absurd rfl c_115
                  · refine lv_iconst (v := 1) hx hb dX6_number_83 (by decide) ?_
                    refine lv_goto (tgt := 88) hx hb dX6_number_84 (by decide) ?_
                    refine lv_istore (lv' := [(6, .int 1), (5, .int (nI (cd ai2))), (4, .int 1), (2, .int (nI v)), (3, .int (nI d)), (0, .ref ((g 0))), (1, .int (nI le))]) hx hb dX6_number_88 hl (by decide) rfl (fun ls hl => ?_)
                    refine lv_iload hx hb dX6_number_90 (lv_at hl 0 rfl) ?_
                    refine lv_if_eq (tgt := 108) hx hb dX6_number_92 (by decide) (fun c_126 => ?_) (fun c_126 => ?_)
                    · exact absurd c_126 (by decide)
                    · refine lv_bipush (v := 10) hx hb dX6_number_95 (by decide) ?_
                      refine lv_iload_n hx hb dX6_number_97 rfl (lv_at hl 3 rfl) ?_
                      refine lv_imul hx hb dX6_number_98 ?_
                      rw [show 10 * (nI v) = nI (10 * v) from pk_mul 10 v]
                      refine lv_iload hx hb dX6_number_99 (lv_at hl 1 rfl) ?_
                      refine lv_iadd hx hb dX6_number_101 ?_
                      rw [show (nI (10 * v)) + (nI (cd ai2)) = nI ((10 * v) + (cd ai2)) from nI_add (10 * v) (cd ai2)]
                      refine lv_bipush (v := 48) hx hb dX6_number_102 (by decide) ?_
                      refine lv_isub hx hb dX6_number_104 ?_
                      rw [show (nI ((10 * v) + (cd ai2))) - 48 = nI (((10 * v) + (cd ai2)) - 48) from pk_sub (a := ((10 * v) + (cd ai2))) (b := 48) (by omega)]
                      refine lv_goto (tgt := 109) hx hb dX6_number_105 (by decide) ?_
                      refine lv_istore_n (lv' := [(2, .int (nI (((10 * v) + (cd ai2)) - 48))), (6, .int 1), (5, .int (nI (cd ai2))), (4, .int 1), (3, .int (nI d)), (0, .ref ((g 0))), (1, .int (nI le))]) hx hb dX6_number_109 rfl hl (by decide) rfl (fun ls hl => ?_)
                      refine lv_iload_n hx hb dX6_number_110 rfl (lv_at hl 4 rfl) ?_
                      refine lv_iload hx hb dX6_number_111 (lv_at hl 1 rfl) ?_
                      refine lv_if_eq (tgt := 120) hx hb dX6_number_113 (by decide) (fun c_127 => ?_) (fun c_127 => ?_)
                      · exact absurd c_127 (by decide)
                      · refine lv_iconst (v := 1) hx hb dX6_number_116 (by decide) ?_
                        refine lv_goto (tgt := 121) hx hb dX6_number_117 (by decide) ?_
                        refine lv_iadd hx hb dX6_number_121 ?_
                        rw [show (nI d) + 1 = nI (d + 1) from nI_add d 1]
                        refine lv_istore_n (lv' := [(3, .int (nI (d + 1))), (2, .int (nI (((10 * v) + (cd ai2)) - 48))), (6, .int 1), (5, .int (nI (cd ai2))), (4, .int 1), (0, .ref ((g 0))), (1, .int (nI le))]) hx hb dX6_number_122 rfl hl (by decide) rfl (fun ls hl => ?_)
                        refine lv_aload_n hx hb dX6_number_123 rfl (lv_at hl 5 rfl) ?_
                        refine lv_dup hx hb dX6_number_124 rfl ?_
                        refine w_get (C := RX6) (T := TX6) (N := 11) (ci := 6) (v := .int (nI ai2)) hx hb hts hin6 hown hK hP 0 (by decide) rfl rfl 8 (by decide) (hts (.fieldLink RX6 109 "MixedBlocksModel" "at" "I") (List.mem_of_getElem? (i := 1) rfl)) (fun _ h9 => h9) rfl dX6_number_125 ?_
                        refine lv_iload hx hb dX6_number_128 (lv_at hl 2 rfl) ?_
                        refine lv_if_eq (tgt := 137) hx hb dX6_number_130 (by decide) (fun c_128 => ?_) (fun c_128 => ?_)
                        · exact absurd c_128 (by decide)
                        · refine lv_iconst (v := 1) hx hb dX6_number_133 (by decide) ?_
                          refine lv_goto (tgt := 138) hx hb dX6_number_134 (by decide) ?_
                          refine lv_iadd hx hb dX6_number_138 ?_
                          rw [show (nI ai2) + 1 = nI (ai2 + 1) from nI_add ai2 1]
                          refine w_put (C := RX6) (T := TX6) (N := 11) (ci := 6) (v := .int (nI (ai2 + 1))) (ty := .int) hx hb hts hin6 tyX6 tyX6_ok nmX6 hown hK hP hI hA hS 0 (by decide) rfl rfl 8 (by decide) (hts (.fieldLink RX6 109 "MixedBlocksModel" "at" "I") (List.mem_of_getElem? (i := 1) rfl)) (fun _ h9 => h9) rfl (by decide +kernel) rfl rfl (Nat.le_of_ble_eq_true rfl) dX6_number_139 (moF E g th f aa sv sm tx ln ro (ai2 + 1) false dg) rfl mo_ne0 (fun H_129 locs_129 hP hS => ?_)
                          refine lv_iload hx hb dX6_number_142 (lv_at hl 2 rfl) ?_
                          refine lv_istore (lv' := [(4, .int 1), (3, .int (nI (d + 1))), (2, .int (nI (((10 * v) + (cd ai2)) - 48))), (6, .int 1), (5, .int (nI (cd ai2))), (0, .ref ((g 0))), (1, .int (nI le))]) hx hb dX6_number_144 hl (by decide) rfl (fun ls hl => ?_)
                          refine lv_goto (tgt := 7) hx hb dX6_number_146 (by decide) ?_
                          have hno : nuO cd ln le ai2 v d = true := decide_eq_true ⟨by omega, ⟨by omega, by omega⟩, by omega, by omega, of_decide_eq_true (bI_1 c_114)⟩
                          have hpw : (((10 * v) + (cd ai2)) - 48) + 1 ≤ 10 ^ (d + 1) := by rw [Nat.pow_succ]; omega
                          exact ihk (ai2 + 1) (((10 * v) + (cd ai2)) - 48) (d + 1) _ _ ls (by omega) hpw (by omega) ((nuS_y hno).symm.trans hres) hP hS (lv_sub hl [0, 2, 1, 5, 6] rfl)
  exact L7 4 ai 0 0 _ _ ls hai (by decide) rfl rfl hP hS (lv_sub hl [0, 2, 1, 3, 4] rfl)
set_option maxHeartbeats 4000000 in
set_option maxRecDepth 100000 in
theorem c_X6_go (l : Launch) (E : wE) (g : Nat → Nat) (th : Int32) (sv : Nat → Int32) (sm : Nat) (tx : Nat → Int32) (ln : Nat) (ai : Nat) (wr : Bool) (dg : Int64) (nb : Nat) (va : Nat → Int32) (se : Int32) (rc : Nat → MR) (el : Bool) (cd : Nat → Nat) (hcs : ∀ j, j < ln → cd j ≤ 126) (htx : ∀ j, j < ln → tx j = nI (cd j)) (hln : ln ≤ 60) (hnb2 : 2 ≤ nb) (hnb : nb ≤ 12) : Met l yX6_go wsX6_go ({ frames := 5, cells := 0, slots := 0, locals := 116 }) (va_Pc [.ref ((g 0)), .int ((bI el))] (wS E 6 g (moZ E g th sv sm tx ln ai wr dg nb va se rc))) (va_Qi (fun (r : Int32) (_ : Unit) => r = nI (goM cd ln nb el (ln + 1) 0 0 (se, rc)).2.2.1) (fun _ t => moZ E g th sv sm tx ln ((goM cd ln nb el (ln + 1) 0 0 (se, rc)).2.1) ((goM cd ln nb el (ln + 1) 0 0 (se, rc)).1) dg nb va ((goM cd ln nb el (ln + 1) 0 0 (se, rc)).2.2.2.1) ((goM cd ln nb el (ln + 1) 0 0 (se, rc)).2.2.2.2) (t.heap)) (wF 6 g)) 0 0 (wF 6 g) := by
  refine Met.ofW (cc := cX6_go) (maxL := 8) (ret := (some .int)) (by decide) rfl ?_
  intro p e s m args below meth c s₁ B hml hv
  obtain ⟨rfl, ⟨aa, ro, rv, hP, hrv⟩, hK, hI⟩ := hv
  have hx := B.exec
  have hb := B.bytes
  have hr := B.returns
  have hts := atoms_spec (ws := wsX6_go) B.pre
  have hown : s.vm.findClass RX6 = some m.cls := findClass_of_methodNamed B.named
  have hlocks := B.notSynchronized
  have hS : va_S (wF 6 g) s.heap s.heap [] := va_S.rf
  have hin6 : ∀ w ∈ wsX60, w ∈ wsX6_go := by decide +kernel
  have hA : ∀ k, k < 6 → (wF 6 g) (g k) := wF_in
  have hl := lv_entry ([.ref ((g 0)), .int ((bI el))]) (n := 8) (Nat.le_of_ble_eq_true rfl)
  rw [lg_entry_eq]
  generalize (lg_sl ([.ref ((g 0)), .int ((bI el))]) ++ List.replicate (8 - (lg_sl ([.ref ((g 0)), .int ((bI el))])).length) Slot.unset).toArray = ls at hl ⊢
  have hl : lv_has ls 8 [(0, .ref ((g 0))), (1, .int ((bI el)))] := hl
  refine lv_aload_n hx hb dX6_go_0 rfl (lv_at hl 0 rfl) ?_
  refine lv_iconst (v := 0) hx hb dX6_go_1 (by decide) ?_
  refine w_put (C := RX6) (T := TX6) (N := 11) (ci := 6) (v := .int 0) (ty := .int) hx hb hts hin6 tyX6 tyX6_ok nmX6 hown hK hP hI hA hS 0 (by decide) rfl rfl 8 (by decide) (hts (.fieldLink RX6 109 "MixedBlocksModel" "at" "I") (List.mem_of_getElem? (i := 1) rfl)) (fun _ h9 => h9) rfl (by decide +kernel) rfl rfl (Nat.le_of_ble_eq_true rfl) dX6_go_2 (moF E g th (mdE nb va se rv) aa sv sm tx ln ro 0 wr dg) rfl mo_ne0 (fun H_1 locs_1 hP hS => ?_)
  refine lv_aload_n hx hb dX6_go_5 rfl (lv_at hl 0 rfl) ?_
  refine lv_iconst (v := 0) hx hb dX6_go_6 (by decide) ?_
  refine w_put (C := RX6) (T := TX6) (N := 11) (ci := 6) (v := .int 0) (ty := .boolean) hx hb hts hin6 tyX6 tyX6_ok nmX6 hown hK hP hI hA hS 0 (by decide) rfl rfl 9 (by decide) (hts (.fieldLink RX6 115 "MixedBlocksModel" "isWrong" "Z") (List.mem_of_getElem? (i := 2) rfl)) (fun _ h9 => h9) rfl (by decide +kernel) rfl rfl (Nat.le_of_ble_eq_true rfl) dX6_go_7 (moF E g th (mdE nb va se rv) aa sv sm tx ln ro 0 false dg) rfl mo_ne0 (fun H_2 locs_2 hP hS => ?_)
  refine lv_iconst (v := 0) hx hb dX6_go_10 (by decide) ?_
  refine lv_istore_n (lv' := [(2, .int 0), (0, .ref ((g 0))), (1, .int ((bI el)))]) hx hb dX6_go_11 rfl hl (by decide) rfl (fun ls hl => ?_)
  refine lv_iconst (v := 1) hx hb dX6_go_12 (by decide) ?_
  refine lv_istore_n (lv' := [(3, .int 1), (2, .int 0), (0, .ref ((g 0))), (1, .int ((bI el)))]) hx hb dX6_go_13 rfl hl (by decide) rfl (fun ls hl => ?_)
  have L14 : ∀ (k : Nat) (ai2 mn : Nat) (y : YS) (aa2 ro2 : Nat → Int32) (rv2 : Nat → Nat → Int32) (H : Heap) (locs : List Loc) (ls : Array Slot), ai2 ≤ ln → ln + 1 ≤ ai2 + k → mn ≤ 100 → goM cd ln nb el k ai2 mn y = (goM cd ln nb el (ln + 1) 0 0 (se, rc)) → (∀ j9, j9 < 3 → rvP (y.2 j9) (rv2 j9)) → wP E 6 g (moF E g th (mdE nb va y.1 rv2) aa2 sv sm tx ln ro2 ai2 false dg) H → va_S (wF 6 g) s.heap H locs → lv_has ls 8 [(3, .int 1), (2, .int (nI mn)), (0, .ref ((g 0))), (1, .int ((bI el)))] → W p l e (headSpec wsX6_go ({ frames := 5, cells := 0, slots := 0, locals := 116 })).room s m ([.ref ((g 0)), .int ((bI el))] : List Value).toArray below meth c H locs 0 0 (MQ below (va_Qi (fun (r : Int32) (_ : Unit) => r = nI (goM cd ln nb el (ln + 1) 0 0 (se, rc)).2.2.1) (fun _ t => moZ E g th sv sm tx ln ((goM cd ln nb el (ln + 1) 0 0 (se, rc)).2.1) ((goM cd ln nb el (ln + 1) 0 0 (se, rc)).1) dg nb va ((goM cd ln nb el (ln + 1) 0 0 (se, rc)).2.2.2.1) ((goM cd ln nb el (ln + 1) 0 0 (se, rc)).2.2.2.2) (t.heap)) (wF 6 g)) ([.ref ((g 0)), .int ((bI el))] : List Value).toArray s 0 0 (wF 6 g)) (F0 m 14 ls []) := by
    intro k
    induction k with
    | zero =>
      intro ai2 mn y aa2 ro2 rv2 H locs ls ha hk hmn hres hrv2 hP hS hl
      exfalso
      omega
    | succ k ihk =>
      intro ai2 mn y aa2 ro2 rv2 H locs ls ha hk hmn hres hrv2 hP hS hl
      have J79 : ∀ (ai3 fi la : Nat) (wr3 : Bool) (H : Heap) (locs : List Loc) (ls : Array Slot), itA cd ln ai2 = (ai3, fi, la, wr3) → ai2 ≤ ai3 → ai3 ≤ ln → fi ≤ 9999 → la ≤ 9999 → wP E 6 g (moF E g th (mdE nb va y.1 rv2) aa2 sv sm tx ln ro2 ai3 wr3 dg) H → va_S (wF 6 g) s.heap H locs → lv_has ls 8 [(4, .int (nI fi)), (5, .int (nI la)), (2, .int (nI mn)), (0, .ref ((g 0))), (1, .int ((bI el)))] → W p l e (headSpec wsX6_go ({ frames := 5, cells := 0, slots := 0, locals := 116 })).room s m ([.ref ((g 0)), .int ((bI el))] : List Value).toArray below meth c H locs 0 0 (MQ below (va_Qi (fun (r : Int32) (_ : Unit) => r = nI (goM cd ln nb el (ln + 1) 0 0 (se, rc)).2.2.1) (fun _ t => moZ E g th sv sm tx ln ((goM cd ln nb el (ln + 1) 0 0 (se, rc)).2.1) ((goM cd ln nb el (ln + 1) 0 0 (se, rc)).1) dg nb va ((goM cd ln nb el (ln + 1) 0 0 (se, rc)).2.2.2.1) ((goM cd ln nb el (ln + 1) 0 0 (se, rc)).2.2.2.2) (t.heap)) (wF 6 g)) ([.ref ((g 0)), .int ((bI el))] : List Value).toArray s 0 0 (wF 6 g)) (F0 m 79 ls []) := by
        intro ai3 fi la wr3 H locs ls hit hle3 hai3 hfi hla hP hS hl
        refine lv_iload hx hb dX6_go_79 (lv_at hl 0 rfl) ?_
        refine lv_istore (lv' := [(6, .int (nI fi)), (4, .int (nI fi)), (5, .int (nI la)), (2, .int (nI mn)), (0, .ref ((g 0))), (1, .int ((bI el)))]) hx hb dX6_go_81 hl (by decide) rfl (fun ls hl => ?_)
        rcases Bool.eq_false_or_eq_true el with hel | hel
        · obtain ⟨hs1, hs2, hmc⟩ := snN_t fi la mn hmn
          rw [← hel] at hs1 hs2 hmc
          have L83 : ∀ (k3 : Nat) (i3 mn3 : Nat) (y3 : YS) (aa3 ro3 : Nat → Int32) (rv3 : Nat → Nat → Int32) (H : Heap) (locs : List Loc) (ls : Array Slot), (k3 ≠ 0 → i3 + k3 ≤ la + 1 ∧ mn3 + k3 ≤ 100) → (la + 1 ≤ i3 + k3 ∨ 100 ≤ mn3 + k3) → mn3 + k3 = mn + (snN el fi la (100 - mn)) → i3 ≤ 10000 → spM nb k3 i3 y3 = spM nb (snN el fi la (100 - mn)) fi y → (∀ j9, j9 < 3 → rvP (y3.2 j9) (rv3 j9)) → wP E 6 g (moF E g th (mdE nb va y3.1 rv3) aa3 sv sm tx ln ro3 ai3 wr3 dg) H → va_S (wF 6 g) s.heap H locs → lv_has ls 8 [(6, .int (nI i3)), (4, .int (nI fi)), (5, .int (nI la)), (2, .int (nI mn3)), (0, .ref ((g 0))), (1, .int ((bI el)))] → W p l e (headSpec wsX6_go ({ frames := 5, cells := 0, slots := 0, locals := 116 })).room s m ([.ref ((g 0)), .int ((bI el))] : List Value).toArray below meth c H locs 0 0 (MQ below (va_Qi (fun (r : Int32) (_ : Unit) => r = nI (goM cd ln nb el (ln + 1) 0 0 (se, rc)).2.2.1) (fun _ t => moZ E g th sv sm tx ln ((goM cd ln nb el (ln + 1) 0 0 (se, rc)).2.1) ((goM cd ln nb el (ln + 1) 0 0 (se, rc)).1) dg nb va ((goM cd ln nb el (ln + 1) 0 0 (se, rc)).2.2.2.1) ((goM cd ln nb el (ln + 1) 0 0 (se, rc)).2.2.2.2) (t.heap)) (wF 6 g)) ([.ref ((g 0)), .int ((bI el))] : List Value).toArray s 0 0 (wF 6 g)) (F0 m 83 ls []) := by
            intro k3
            induction k3 with
            | zero =>
              intro i3 mn3 y3 aa3 ro3 rv3 H locs ls h31 h32 h33 h34 hres3 hrv3 hP hS hl
              refine lv_iload hx hb dX6_go_83 (lv_at hl 0 rfl) ?_
              refine lv_iload hx hb dX6_go_85 (lv_at hl 2 rfl) ?_
              refine lv_icmp_gt (tgt := 117) hx hb dX6_go_87 (by decide) (fun c_3 => ?_) (fun c_3 => ?_)
              · have n_3 : la < i3 := (nI_ltI (a := la) (b := i3) (by omega) (by omega)).mp c_3
                have hy3 : y3 = spM nb (snN el fi la (100 - mn)) fi y := hres3
                have hm3 : mn3 = mn + (snN el fi la (100 - mn)) := by omega
                subst hy3
                subst hm3
                refine lv_aload_n hx hb dX6_go_117 rfl (lv_at hl 4 rfl) ?_
                refine w_get (C := RX6) (T := TX6) (N := 11) (ci := 6) (v := .int ((bI wr3))) hx hb hts hin6 hown hK hP 0 (by decide) rfl rfl 9 (by decide) (hts (.fieldLink RX6 115 "MixedBlocksModel" "isWrong" "Z") (List.mem_of_getElem? (i := 2) rfl)) (fun _ h9 => h9) rfl dX6_go_118 ?_
                refine lv_if_ne (tgt := 139) hx hb dX6_go_121 (by decide) (fun c_4 => ?_) (fun c_4 => ?_)
                · refine lv_iconst (v := 0) hx hb dX6_go_139 (by decide) ?_
                  refine lv_istore_n (lv' := [(3, .int 0), (6, .int (nI i3)), (4, .int (nI fi)), (5, .int (nI la)), (2, .int (nI (mn + (snN el fi la (100 - mn))))), (0, .ref ((g 0))), (1, .int ((bI el)))]) hx hb dX6_go_140 rfl hl (by decide) rfl (fun ls hl => ?_)
                  refine lv_iload_n hx hb dX6_go_141 rfl (lv_at hl 0 rfl) ?_
                  refine lv_if_eq (tgt := 202) hx hb dX6_go_142 (by decide) (fun c_5 => ?_) (fun c_5 => ?_)
                  · refine lv_goto (tgt := 14) hx hb dX6_go_202 (by decide) ?_
                    have hgo := goM_e (nb := nb) (el := el) (k := k) (mn := mn) (y := y) hit (Or.inl (bI_1 c_4))
                    have hq := hres.symm.trans hgo
                    refine lv_iload_n hx hb dX6_go_14 rfl (lv_at hl 0 rfl) ?_
                    refine lv_if_eq (tgt := 205) hx hb dX6_go_15 (by decide) (fun c_6 => ?_) (fun c_6 => ?_)
                    · refine lv_iload_n hx hb dX6_go_205 rfl (lv_at hl 4 rfl) ?_
                      exact W.iret (v := (nI (mn + (snN el fi la (100 - mn))))) hx hb hr (fun t ht hW => ⟨⟨_, (), rfl, (by show _ = _; rw [hq]), (by show moZ E g th sv sm tx ln ((goM cd ln nb el (ln + 1) 0 0 (se, rc)).2.1) ((goM cd ln nb el (ln + 1) 0 0 (se, rc)).1) dg nb va ((goM cd ln nb el (ln + 1) 0 0 (se, rc)).2.2.2.1) ((goM cd ln nb el (ln + 1) 0 0 (se, rc)).2.2.2.2) (t.heap); rw [ht, hq]; exact ⟨_, _, _, hP, hrv3⟩)⟩, hS.F ht⟩) hS.2.2 dX6_go_206
                    · exact absurd rfl c_6
                  · exact absurd rfl c_5
                · have hw3 : wr3 = false := bI_0 c_4
                  refine lv_aload_n hx hb dX6_go_124 rfl (lv_at hl 4 rfl) ?_
                  refine w_get (C := RX6) (T := TX6) (N := 11) (ci := 6) (v := .int (nI ai3)) hx hb hts hin6 hown hK hP 0 (by decide) rfl rfl 8 (by decide) (hts (.fieldLink RX6 109 "MixedBlocksModel" "at" "I") (List.mem_of_getElem? (i := 1) rfl)) (fun _ h9 => h9) rfl dX6_go_125 ?_
                  refine lv_aload_n hx hb dX6_go_128 rfl (lv_at hl 4 rfl) ?_
                  refine w_get (C := RX6) (T := TX6) (N := 11) (ci := 6) (v := .int (nI ln)) hx hb hts hin6 hown hK hP 0 (by decide) rfl rfl 6 (by decide) (hts (.fieldLink RX6 106 "MixedBlocksModel" "length" "I") (List.mem_of_getElem? (i := 3) rfl)) (fun _ h9 => h9) rfl dX6_go_129 ?_
                  refine lv_icmp_ge (tgt := 139) hx hb dX6_go_132 (by decide) (fun c_7 => ?_) (fun c_7 => ?_)
                  · have n_7 : ln ≤ ai3 := (nI_leI (a := ln) (b := ai3) (by omega) (by omega)).mp c_7
                    refine lv_iconst (v := 0) hx hb dX6_go_139 (by decide) ?_
                    refine lv_istore_n (lv' := [(3, .int 0), (6, .int (nI i3)), (4, .int (nI fi)), (5, .int (nI la)), (2, .int (nI (mn + (snN el fi la (100 - mn))))), (0, .ref ((g 0))), (1, .int ((bI el)))]) hx hb dX6_go_140 rfl hl (by decide) rfl (fun ls hl => ?_)
                    refine lv_iload_n hx hb dX6_go_141 rfl (lv_at hl 0 rfl) ?_
                    refine lv_if_eq (tgt := 202) hx hb dX6_go_142 (by decide) (fun c_8 => ?_) (fun c_8 => ?_)
                    · refine lv_goto (tgt := 14) hx hb dX6_go_202 (by decide) ?_
                      have hgo := goM_e (nb := nb) (el := el) (k := k) (mn := mn) (y := y) hit (Or.inr (by omega))
                      have hq := hres.symm.trans hgo
                      refine lv_iload_n hx hb dX6_go_14 rfl (lv_at hl 0 rfl) ?_
                      refine lv_if_eq (tgt := 205) hx hb dX6_go_15 (by decide) (fun c_9 => ?_) (fun c_9 => ?_)
                      · refine lv_iload_n hx hb dX6_go_205 rfl (lv_at hl 4 rfl) ?_
                        exact W.iret (v := (nI (mn + (snN el fi la (100 - mn))))) hx hb hr (fun t ht hW => ⟨⟨_, (), rfl, (by show _ = _; rw [hq]), (by show moZ E g th sv sm tx ln ((goM cd ln nb el (ln + 1) 0 0 (se, rc)).2.1) ((goM cd ln nb el (ln + 1) 0 0 (se, rc)).1) dg nb va ((goM cd ln nb el (ln + 1) 0 0 (se, rc)).2.2.2.1) ((goM cd ln nb el (ln + 1) 0 0 (se, rc)).2.2.2.2) (t.heap); rw [ht, hq]; exact ⟨_, _, _, hP, hrv3⟩)⟩, hS.F ht⟩) hS.2.2 dX6_go_206
                      · exact absurd rfl c_9
                    · exact absurd rfl c_8
                  · have n_7 : ¬ (ln ≤ ai3) := fun z => c_7 ((nI_leI (a := ln) (b := ai3) (by omega) (by omega)).mpr z)
                    refine lv_iconst (v := 1) hx hb dX6_go_135 (by decide) ?_
                    refine lv_goto (tgt := 140) hx hb dX6_go_136 (by decide) ?_
                    refine lv_istore_n (lv' := [(3, .int 1), (6, .int (nI i3)), (4, .int (nI fi)), (5, .int (nI la)), (2, .int (nI (mn + (snN el fi la (100 - mn))))), (0, .ref ((g 0))), (1, .int ((bI el)))]) hx hb dX6_go_140 rfl hl (by decide) rfl (fun ls hl => ?_)
                    refine lv_iload_n hx hb dX6_go_141 rfl (lv_at hl 0 rfl) ?_
                    refine lv_if_eq (tgt := 202) hx hb dX6_go_142 (by decide) (fun c_10 => ?_) (fun c_10 => ?_)
                    · exact absurd c_10 (by decide)
                    · refine lv_aload_n hx hb dX6_go_145 rfl (lv_at hl 5 rfl) ?_
                      refine lv_aload_n hx hb dX6_go_146 rfl (lv_at hl 5 rfl) ?_
                      refine w_get (C := RX6) (T := TX6) (N := 11) (ci := 6) (v := .ref ((g 4))) hx hb hts hin6 hown hK hP 0 (by decide) rfl rfl 5 (by decide) (hts (.fieldLink RX6 19 "MixedBlocksModel" "text" "[I") (List.mem_of_getElem? (i := 4) rfl)) (fun _ h9 => h9) rfl dX6_go_147 ?_
                      refine lv_aload_n hx hb dX6_go_150 rfl (lv_at hl 5 rfl) ?_
                      refine w_get (C := RX6) (T := TX6) (N := 11) (ci := 6) (v := .int (nI ai3)) hx hb hts hin6 hown hK hP 0 (by decide) rfl rfl 8 (by decide) (hts (.fieldLink RX6 109 "MixedBlocksModel" "at" "I") (List.mem_of_getElem? (i := 1) rfl)) (fun _ h9 => h9) rfl dX6_go_151 ?_
                      refine w_iald hx hb hK hP 4 (by decide) rfl (vp_in_nI (by omega) (by decide)) dX6_go_154 ?_
                      have hcb_11 := hcs (ai3) (by omega)
                      rw [nI_clamp (by omega), htx _ (by omega)]
                      refine lv_bipush (v := 44) hx hb dX6_go_155 (by decide) ?_
                      refine lv_icmp_eq (tgt := 164) hx hb dX6_go_157 (by decide) (fun c_12 => ?_) (fun c_12 => ?_)
                      · have n_12 : (cd ai3) = 44 := (nI_eq (a := (cd ai3)) (b := 44) (by omega) (by omega)).mp c_12
                        refine lv_iconst (v := 0) hx hb dX6_go_164 (by decide) ?_
                        refine w_put (C := RX6) (T := TX6) (N := 11) (ci := 6) (v := .int 0) (ty := .boolean) hx hb hts hin6 tyX6 tyX6_ok nmX6 hown hK hP hI hA hS 0 (by decide) rfl rfl 9 (by decide) (hts (.fieldLink RX6 115 "MixedBlocksModel" "isWrong" "Z") (List.mem_of_getElem? (i := 2) rfl)) (fun _ h9 => h9) rfl (by decide +kernel) rfl rfl (Nat.le_of_ble_eq_true rfl) dX6_go_165 (moF E g th (mdE nb va ((spM nb (snN el fi la (100 - mn)) fi y).1) rv3) aa3 sv sm tx ln ro3 ai3 false dg) rfl mo_ne0 (fun H_13 locs_13 hP hS => ?_)
                        refine lv_aload_n hx hb dX6_go_168 rfl (lv_at hl 5 rfl) ?_
                        refine lv_dup hx hb dX6_go_169 rfl ?_
                        refine w_get (C := RX6) (T := TX6) (N := 11) (ci := 6) (v := .int (nI ai3)) hx hb hts hin6 hown hK hP 0 (by decide) rfl rfl 8 (by decide) (hts (.fieldLink RX6 109 "MixedBlocksModel" "at" "I") (List.mem_of_getElem? (i := 1) rfl)) (fun _ h9 => h9) rfl dX6_go_170 ?_
                        refine lv_aload_n hx hb dX6_go_173 rfl (lv_at hl 5 rfl) ?_
                        refine w_get (C := RX6) (T := TX6) (N := 11) (ci := 6) (v := .int ((bI false))) hx hb hts hin6 hown hK hP 0 (by decide) rfl rfl 9 (by decide) (hts (.fieldLink RX6 115 "MixedBlocksModel" "isWrong" "Z") (List.mem_of_getElem? (i := 2) rfl)) (fun _ h9 => h9) rfl dX6_go_174 ?_
                        refine lv_if_eq (tgt := 184) hx hb dX6_go_177 (by decide) (fun c_14 => ?_) (fun c_14 => ?_)
                        · refine lv_iconst (v := 1) hx hb dX6_go_184 (by decide) ?_
                          refine lv_iadd hx hb dX6_go_185 ?_
                          rw [show (nI ai3) + 1 = nI (ai3 + 1) from nI_add ai3 1]
                          refine w_put (C := RX6) (T := TX6) (N := 11) (ci := 6) (v := .int (nI (ai3 + 1))) (ty := .int) hx hb hts hin6 tyX6 tyX6_ok nmX6 hown hK hP hI hA hS 0 (by decide) rfl rfl 8 (by decide) (hts (.fieldLink RX6 109 "MixedBlocksModel" "at" "I") (List.mem_of_getElem? (i := 1) rfl)) (fun _ h9 => h9) rfl (by decide +kernel) rfl rfl (Nat.le_of_ble_eq_true rfl) dX6_go_186 (moF E g th (mdE nb va ((spM nb (snN el fi la (100 - mn)) fi y).1) rv3) aa3 sv sm tx ln ro3 (ai3 + 1) false dg) rfl mo_ne0 (fun H_15 locs_15 hP hS => ?_)
                          refine lv_aload_n hx hb dX6_go_189 rfl (lv_at hl 5 rfl) ?_
                          refine w_get (C := RX6) (T := TX6) (N := 11) (ci := 6) (v := .int ((bI false))) hx hb hts hin6 hown hK hP 0 (by decide) rfl rfl 9 (by decide) (hts (.fieldLink RX6 115 "MixedBlocksModel" "isWrong" "Z") (List.mem_of_getElem? (i := 2) rfl)) (fun _ h9 => h9) rfl dX6_go_190 ?_
                          refine lv_if_ne (tgt := 200) hx hb dX6_go_193 (by decide) (fun c_16 => ?_) (fun c_16 => ?_)
                          · exact absurd rfl c_16
                          · refine lv_iconst (v := 1) hx hb dX6_go_196 (by decide) ?_
                            refine lv_goto (tgt := 201) hx hb dX6_go_197 (by decide) ?_
                            refine lv_istore_n (lv' := [(3, .int 1), (6, .int (nI i3)), (4, .int (nI fi)), (5, .int (nI la)), (2, .int (nI (mn + (snN el fi la (100 - mn))))), (0, .ref ((g 0))), (1, .int ((bI el)))]) hx hb dX6_go_201 rfl hl (by decide) rfl (fun ls hl => ?_)
                            refine lv_goto (tgt := 14) hx hb dX6_go_202 (by decide) ?_
                            have hgo := goM_c (nb := nb) (el := el) (k := k) (mn := mn) (y := y) hit hw3 (by omega) (by omega)
                            exact ihk (ai3 + 1) (mn + snN el fi la (100 - mn)) (spM nb (snN el fi la (100 - mn)) fi y) aa3 ro3 rv3 _ _ ls (by omega) (by omega) hmc (hgo.symm.trans hres) hrv3 hP hS (lv_sub hl [0, 4, 5, 6] rfl)
                        · exact absurd rfl c_14
                      · have n_12 : ¬ ((cd ai3) = 44) := fun z => c_12 ((nI_eq (a := (cd ai3)) (b := 44) (by omega) (by omega)).mpr z)
                        refine lv_iconst (v := 1) hx hb dX6_go_160 (by decide) ?_
                        refine lv_goto (tgt := 165) hx hb dX6_go_161 (by decide) ?_
                        refine w_put (C := RX6) (T := TX6) (N := 11) (ci := 6) (v := .int 1) (ty := .boolean) hx hb hts hin6 tyX6 tyX6_ok nmX6 hown hK hP hI hA hS 0 (by decide) rfl rfl 9 (by decide) (hts (.fieldLink RX6 115 "MixedBlocksModel" "isWrong" "Z") (List.mem_of_getElem? (i := 2) rfl)) (fun _ h9 => h9) rfl (by decide +kernel) rfl rfl (Nat.le_of_ble_eq_true rfl) dX6_go_165 (moF E g th (mdE nb va ((spM nb (snN el fi la (100 - mn)) fi y).1) rv3) aa3 sv sm tx ln ro3 ai3 true dg) rfl mo_ne0 (fun H_17 locs_17 hP hS => ?_)
                        refine lv_aload_n hx hb dX6_go_168 rfl (lv_at hl 5 rfl) ?_
                        refine lv_dup hx hb dX6_go_169 rfl ?_
                        refine w_get (C := RX6) (T := TX6) (N := 11) (ci := 6) (v := .int (nI ai3)) hx hb hts hin6 hown hK hP 0 (by decide) rfl rfl 8 (by decide) (hts (.fieldLink RX6 109 "MixedBlocksModel" "at" "I") (List.mem_of_getElem? (i := 1) rfl)) (fun _ h9 => h9) rfl dX6_go_170 ?_
                        refine lv_aload_n hx hb dX6_go_173 rfl (lv_at hl 5 rfl) ?_
                        refine w_get (C := RX6) (T := TX6) (N := 11) (ci := 6) (v := .int ((bI true))) hx hb hts hin6 hown hK hP 0 (by decide) rfl rfl 9 (by decide) (hts (.fieldLink RX6 115 "MixedBlocksModel" "isWrong" "Z") (List.mem_of_getElem? (i := 2) rfl)) (fun _ h9 => h9) rfl dX6_go_174 ?_
                        refine lv_if_eq (tgt := 184) hx hb dX6_go_177 (by decide) (fun c_18 => ?_) (fun c_18 => ?_)
                        · exact absurd c_18 (by decide)
                        · refine lv_iconst (v := 0) hx hb dX6_go_180 (by decide) ?_
                          refine lv_goto (tgt := 185) hx hb dX6_go_181 (by decide) ?_
                          refine lv_iadd hx hb dX6_go_185 ?_
                          rw [show (nI ai3) + 0 = nI (ai3 + 0) from nI_add ai3 0]
                          refine w_put (C := RX6) (T := TX6) (N := 11) (ci := 6) (v := .int (nI (ai3 + 0))) (ty := .int) hx hb hts hin6 tyX6 tyX6_ok nmX6 hown hK hP hI hA hS 0 (by decide) rfl rfl 8 (by decide) (hts (.fieldLink RX6 109 "MixedBlocksModel" "at" "I") (List.mem_of_getElem? (i := 1) rfl)) (fun _ h9 => h9) rfl (by decide +kernel) rfl rfl (Nat.le_of_ble_eq_true rfl) dX6_go_186 (moF E g th (mdE nb va ((spM nb (snN el fi la (100 - mn)) fi y).1) rv3) aa3 sv sm tx ln ro3 (ai3 + 0) true dg) rfl mo_ne0 (fun H_19 locs_19 hP hS => ?_)
                          refine lv_aload_n hx hb dX6_go_189 rfl (lv_at hl 5 rfl) ?_
                          refine w_get (C := RX6) (T := TX6) (N := 11) (ci := 6) (v := .int ((bI true))) hx hb hts hin6 hown hK hP 0 (by decide) rfl rfl 9 (by decide) (hts (.fieldLink RX6 115 "MixedBlocksModel" "isWrong" "Z") (List.mem_of_getElem? (i := 2) rfl)) (fun _ h9 => h9) rfl dX6_go_190 ?_
                          refine lv_if_ne (tgt := 200) hx hb dX6_go_193 (by decide) (fun c_20 => ?_) (fun c_20 => ?_)
                          · refine lv_iconst (v := 0) hx hb dX6_go_200 (by decide) ?_
                            refine lv_istore_n (lv' := [(3, .int 0), (6, .int (nI i3)), (4, .int (nI fi)), (5, .int (nI la)), (2, .int (nI (mn + (snN el fi la (100 - mn))))), (0, .ref ((g 0))), (1, .int ((bI el)))]) hx hb dX6_go_201 rfl hl (by decide) rfl (fun ls hl => ?_)
                            refine lv_goto (tgt := 14) hx hb dX6_go_202 (by decide) ?_
                            have hgo := goM_w (nb := nb) (el := el) (k := k) (mn := mn) (y := y) hit hw3 (by omega) (by omega)
                            have hq := hres.symm.trans hgo
                            refine lv_iload_n hx hb dX6_go_14 rfl (lv_at hl 0 rfl) ?_
                            refine lv_if_eq (tgt := 205) hx hb dX6_go_15 (by decide) (fun c_21 => ?_) (fun c_21 => ?_)
                            · refine lv_iload_n hx hb dX6_go_205 rfl (lv_at hl 4 rfl) ?_
                              exact W.iret (v := (nI (mn + (snN el fi la (100 - mn))))) hx hb hr (fun t ht hW => ⟨⟨_, (), rfl, (by show _ = _; rw [hq]), (by show moZ E g th sv sm tx ln ((goM cd ln nb el (ln + 1) 0 0 (se, rc)).2.1) ((goM cd ln nb el (ln + 1) 0 0 (se, rc)).1) dg nb va ((goM cd ln nb el (ln + 1) 0 0 (se, rc)).2.2.2.1) ((goM cd ln nb el (ln + 1) 0 0 (se, rc)).2.2.2.2) (t.heap); rw [ht, hq]; exact ⟨_, _, _, hP, hrv3⟩)⟩, hS.F ht⟩) hS.2.2 dX6_go_206
                            · exact absurd rfl c_21
                          · exact absurd c_20 (by decide)
              · have n_3 : ¬ (la < i3) := fun z => c_3 ((nI_ltI (a := la) (b := i3) (by omega) (by omega)).mpr z)
                refine lv_iload_n hx hb dX6_go_90 rfl (lv_at hl 5 rfl) ?_
                refine lv_if_eq (tgt := 117) hx hb dX6_go_91 (by decide) (fun c_22 => ?_) (fun c_22 => ?_)
                · rw [hel] at c_22; exact absurd c_22 (by decide)
                · refine lv_iload_n hx hb dX6_go_94 rfl (lv_at hl 3 rfl) ?_
                  refine lv_bipush (v := 100) hx hb dX6_go_95 (by decide) ?_
                  refine lv_icmp_ge (tgt := 117) hx hb dX6_go_97 (by decide) (fun c_23 => ?_) (fun c_23 => ?_)
                  · have n_23 : 100 ≤ mn3 := (nI_leI (a := 100) (b := mn3) (by omega) (by omega)).mp c_23
                    have hy3 : y3 = spM nb (snN el fi la (100 - mn)) fi y := hres3
                    have hm3 : mn3 = mn + (snN el fi la (100 - mn)) := by omega
                    subst hy3
                    subst hm3
                    refine lv_aload_n hx hb dX6_go_117 rfl (lv_at hl 4 rfl) ?_
                    refine w_get (C := RX6) (T := TX6) (N := 11) (ci := 6) (v := .int ((bI wr3))) hx hb hts hin6 hown hK hP 0 (by decide) rfl rfl 9 (by decide) (hts (.fieldLink RX6 115 "MixedBlocksModel" "isWrong" "Z") (List.mem_of_getElem? (i := 2) rfl)) (fun _ h9 => h9) rfl dX6_go_118 ?_
                    refine lv_if_ne (tgt := 139) hx hb dX6_go_121 (by decide) (fun c_24 => ?_) (fun c_24 => ?_)
                    · refine lv_iconst (v := 0) hx hb dX6_go_139 (by decide) ?_
                      refine lv_istore_n (lv' := [(3, .int 0), (6, .int (nI i3)), (4, .int (nI fi)), (5, .int (nI la)), (2, .int (nI (mn + (snN el fi la (100 - mn))))), (0, .ref ((g 0))), (1, .int ((bI el)))]) hx hb dX6_go_140 rfl hl (by decide) rfl (fun ls hl => ?_)
                      refine lv_iload_n hx hb dX6_go_141 rfl (lv_at hl 0 rfl) ?_
                      refine lv_if_eq (tgt := 202) hx hb dX6_go_142 (by decide) (fun c_25 => ?_) (fun c_25 => ?_)
                      · refine lv_goto (tgt := 14) hx hb dX6_go_202 (by decide) ?_
                        have hgo := goM_e (nb := nb) (el := el) (k := k) (mn := mn) (y := y) hit (Or.inl (bI_1 c_24))
                        have hq := hres.symm.trans hgo
                        refine lv_iload_n hx hb dX6_go_14 rfl (lv_at hl 0 rfl) ?_
                        refine lv_if_eq (tgt := 205) hx hb dX6_go_15 (by decide) (fun c_26 => ?_) (fun c_26 => ?_)
                        · refine lv_iload_n hx hb dX6_go_205 rfl (lv_at hl 4 rfl) ?_
                          exact W.iret (v := (nI (mn + (snN el fi la (100 - mn))))) hx hb hr (fun t ht hW => ⟨⟨_, (), rfl, (by show _ = _; rw [hq]), (by show moZ E g th sv sm tx ln ((goM cd ln nb el (ln + 1) 0 0 (se, rc)).2.1) ((goM cd ln nb el (ln + 1) 0 0 (se, rc)).1) dg nb va ((goM cd ln nb el (ln + 1) 0 0 (se, rc)).2.2.2.1) ((goM cd ln nb el (ln + 1) 0 0 (se, rc)).2.2.2.2) (t.heap); rw [ht, hq]; exact ⟨_, _, _, hP, hrv3⟩)⟩, hS.F ht⟩) hS.2.2 dX6_go_206
                        · exact absurd rfl c_26
                      · exact absurd rfl c_25
                    · have hw3 : wr3 = false := bI_0 c_24
                      refine lv_aload_n hx hb dX6_go_124 rfl (lv_at hl 4 rfl) ?_
                      refine w_get (C := RX6) (T := TX6) (N := 11) (ci := 6) (v := .int (nI ai3)) hx hb hts hin6 hown hK hP 0 (by decide) rfl rfl 8 (by decide) (hts (.fieldLink RX6 109 "MixedBlocksModel" "at" "I") (List.mem_of_getElem? (i := 1) rfl)) (fun _ h9 => h9) rfl dX6_go_125 ?_
                      refine lv_aload_n hx hb dX6_go_128 rfl (lv_at hl 4 rfl) ?_
                      refine w_get (C := RX6) (T := TX6) (N := 11) (ci := 6) (v := .int (nI ln)) hx hb hts hin6 hown hK hP 0 (by decide) rfl rfl 6 (by decide) (hts (.fieldLink RX6 106 "MixedBlocksModel" "length" "I") (List.mem_of_getElem? (i := 3) rfl)) (fun _ h9 => h9) rfl dX6_go_129 ?_
                      refine lv_icmp_ge (tgt := 139) hx hb dX6_go_132 (by decide) (fun c_27 => ?_) (fun c_27 => ?_)
                      · have n_27 : ln ≤ ai3 := (nI_leI (a := ln) (b := ai3) (by omega) (by omega)).mp c_27
                        refine lv_iconst (v := 0) hx hb dX6_go_139 (by decide) ?_
                        refine lv_istore_n (lv' := [(3, .int 0), (6, .int (nI i3)), (4, .int (nI fi)), (5, .int (nI la)), (2, .int (nI (mn + (snN el fi la (100 - mn))))), (0, .ref ((g 0))), (1, .int ((bI el)))]) hx hb dX6_go_140 rfl hl (by decide) rfl (fun ls hl => ?_)
                        refine lv_iload_n hx hb dX6_go_141 rfl (lv_at hl 0 rfl) ?_
                        refine lv_if_eq (tgt := 202) hx hb dX6_go_142 (by decide) (fun c_28 => ?_) (fun c_28 => ?_)
                        · refine lv_goto (tgt := 14) hx hb dX6_go_202 (by decide) ?_
                          have hgo := goM_e (nb := nb) (el := el) (k := k) (mn := mn) (y := y) hit (Or.inr (by omega))
                          have hq := hres.symm.trans hgo
                          refine lv_iload_n hx hb dX6_go_14 rfl (lv_at hl 0 rfl) ?_
                          refine lv_if_eq (tgt := 205) hx hb dX6_go_15 (by decide) (fun c_29 => ?_) (fun c_29 => ?_)
                          · refine lv_iload_n hx hb dX6_go_205 rfl (lv_at hl 4 rfl) ?_
                            exact W.iret (v := (nI (mn + (snN el fi la (100 - mn))))) hx hb hr (fun t ht hW => ⟨⟨_, (), rfl, (by show _ = _; rw [hq]), (by show moZ E g th sv sm tx ln ((goM cd ln nb el (ln + 1) 0 0 (se, rc)).2.1) ((goM cd ln nb el (ln + 1) 0 0 (se, rc)).1) dg nb va ((goM cd ln nb el (ln + 1) 0 0 (se, rc)).2.2.2.1) ((goM cd ln nb el (ln + 1) 0 0 (se, rc)).2.2.2.2) (t.heap); rw [ht, hq]; exact ⟨_, _, _, hP, hrv3⟩)⟩, hS.F ht⟩) hS.2.2 dX6_go_206
                          · exact absurd rfl c_29
                        · exact absurd rfl c_28
                      · have n_27 : ¬ (ln ≤ ai3) := fun z => c_27 ((nI_leI (a := ln) (b := ai3) (by omega) (by omega)).mpr z)
                        refine lv_iconst (v := 1) hx hb dX6_go_135 (by decide) ?_
                        refine lv_goto (tgt := 140) hx hb dX6_go_136 (by decide) ?_
                        refine lv_istore_n (lv' := [(3, .int 1), (6, .int (nI i3)), (4, .int (nI fi)), (5, .int (nI la)), (2, .int (nI (mn + (snN el fi la (100 - mn))))), (0, .ref ((g 0))), (1, .int ((bI el)))]) hx hb dX6_go_140 rfl hl (by decide) rfl (fun ls hl => ?_)
                        refine lv_iload_n hx hb dX6_go_141 rfl (lv_at hl 0 rfl) ?_
                        refine lv_if_eq (tgt := 202) hx hb dX6_go_142 (by decide) (fun c_30 => ?_) (fun c_30 => ?_)
                        · exact absurd c_30 (by decide)
                        · refine lv_aload_n hx hb dX6_go_145 rfl (lv_at hl 5 rfl) ?_
                          refine lv_aload_n hx hb dX6_go_146 rfl (lv_at hl 5 rfl) ?_
                          refine w_get (C := RX6) (T := TX6) (N := 11) (ci := 6) (v := .ref ((g 4))) hx hb hts hin6 hown hK hP 0 (by decide) rfl rfl 5 (by decide) (hts (.fieldLink RX6 19 "MixedBlocksModel" "text" "[I") (List.mem_of_getElem? (i := 4) rfl)) (fun _ h9 => h9) rfl dX6_go_147 ?_
                          refine lv_aload_n hx hb dX6_go_150 rfl (lv_at hl 5 rfl) ?_
                          refine w_get (C := RX6) (T := TX6) (N := 11) (ci := 6) (v := .int (nI ai3)) hx hb hts hin6 hown hK hP 0 (by decide) rfl rfl 8 (by decide) (hts (.fieldLink RX6 109 "MixedBlocksModel" "at" "I") (List.mem_of_getElem? (i := 1) rfl)) (fun _ h9 => h9) rfl dX6_go_151 ?_
                          refine w_iald hx hb hK hP 4 (by decide) rfl (vp_in_nI (by omega) (by decide)) dX6_go_154 ?_
                          have hcb_31 := hcs (ai3) (by omega)
                          rw [nI_clamp (by omega), htx _ (by omega)]
                          refine lv_bipush (v := 44) hx hb dX6_go_155 (by decide) ?_
                          refine lv_icmp_eq (tgt := 164) hx hb dX6_go_157 (by decide) (fun c_32 => ?_) (fun c_32 => ?_)
                          · have n_32 : (cd ai3) = 44 := (nI_eq (a := (cd ai3)) (b := 44) (by omega) (by omega)).mp c_32
                            refine lv_iconst (v := 0) hx hb dX6_go_164 (by decide) ?_
                            refine w_put (C := RX6) (T := TX6) (N := 11) (ci := 6) (v := .int 0) (ty := .boolean) hx hb hts hin6 tyX6 tyX6_ok nmX6 hown hK hP hI hA hS 0 (by decide) rfl rfl 9 (by decide) (hts (.fieldLink RX6 115 "MixedBlocksModel" "isWrong" "Z") (List.mem_of_getElem? (i := 2) rfl)) (fun _ h9 => h9) rfl (by decide +kernel) rfl rfl (Nat.le_of_ble_eq_true rfl) dX6_go_165 (moF E g th (mdE nb va ((spM nb (snN el fi la (100 - mn)) fi y).1) rv3) aa3 sv sm tx ln ro3 ai3 false dg) rfl mo_ne0 (fun H_33 locs_33 hP hS => ?_)
                            refine lv_aload_n hx hb dX6_go_168 rfl (lv_at hl 5 rfl) ?_
                            refine lv_dup hx hb dX6_go_169 rfl ?_
                            refine w_get (C := RX6) (T := TX6) (N := 11) (ci := 6) (v := .int (nI ai3)) hx hb hts hin6 hown hK hP 0 (by decide) rfl rfl 8 (by decide) (hts (.fieldLink RX6 109 "MixedBlocksModel" "at" "I") (List.mem_of_getElem? (i := 1) rfl)) (fun _ h9 => h9) rfl dX6_go_170 ?_
                            refine lv_aload_n hx hb dX6_go_173 rfl (lv_at hl 5 rfl) ?_
                            refine w_get (C := RX6) (T := TX6) (N := 11) (ci := 6) (v := .int ((bI false))) hx hb hts hin6 hown hK hP 0 (by decide) rfl rfl 9 (by decide) (hts (.fieldLink RX6 115 "MixedBlocksModel" "isWrong" "Z") (List.mem_of_getElem? (i := 2) rfl)) (fun _ h9 => h9) rfl dX6_go_174 ?_
                            refine lv_if_eq (tgt := 184) hx hb dX6_go_177 (by decide) (fun c_34 => ?_) (fun c_34 => ?_)
                            · refine lv_iconst (v := 1) hx hb dX6_go_184 (by decide) ?_
                              refine lv_iadd hx hb dX6_go_185 ?_
                              rw [show (nI ai3) + 1 = nI (ai3 + 1) from nI_add ai3 1]
                              refine w_put (C := RX6) (T := TX6) (N := 11) (ci := 6) (v := .int (nI (ai3 + 1))) (ty := .int) hx hb hts hin6 tyX6 tyX6_ok nmX6 hown hK hP hI hA hS 0 (by decide) rfl rfl 8 (by decide) (hts (.fieldLink RX6 109 "MixedBlocksModel" "at" "I") (List.mem_of_getElem? (i := 1) rfl)) (fun _ h9 => h9) rfl (by decide +kernel) rfl rfl (Nat.le_of_ble_eq_true rfl) dX6_go_186 (moF E g th (mdE nb va ((spM nb (snN el fi la (100 - mn)) fi y).1) rv3) aa3 sv sm tx ln ro3 (ai3 + 1) false dg) rfl mo_ne0 (fun H_35 locs_35 hP hS => ?_)
                              refine lv_aload_n hx hb dX6_go_189 rfl (lv_at hl 5 rfl) ?_
                              refine w_get (C := RX6) (T := TX6) (N := 11) (ci := 6) (v := .int ((bI false))) hx hb hts hin6 hown hK hP 0 (by decide) rfl rfl 9 (by decide) (hts (.fieldLink RX6 115 "MixedBlocksModel" "isWrong" "Z") (List.mem_of_getElem? (i := 2) rfl)) (fun _ h9 => h9) rfl dX6_go_190 ?_
                              refine lv_if_ne (tgt := 200) hx hb dX6_go_193 (by decide) (fun c_36 => ?_) (fun c_36 => ?_)
                              · exact absurd rfl c_36
                              · refine lv_iconst (v := 1) hx hb dX6_go_196 (by decide) ?_
                                refine lv_goto (tgt := 201) hx hb dX6_go_197 (by decide) ?_
                                refine lv_istore_n (lv' := [(3, .int 1), (6, .int (nI i3)), (4, .int (nI fi)), (5, .int (nI la)), (2, .int (nI (mn + (snN el fi la (100 - mn))))), (0, .ref ((g 0))), (1, .int ((bI el)))]) hx hb dX6_go_201 rfl hl (by decide) rfl (fun ls hl => ?_)
                                refine lv_goto (tgt := 14) hx hb dX6_go_202 (by decide) ?_
                                have hgo := goM_c (nb := nb) (el := el) (k := k) (mn := mn) (y := y) hit hw3 (by omega) (by omega)
                                exact ihk (ai3 + 1) (mn + snN el fi la (100 - mn)) (spM nb (snN el fi la (100 - mn)) fi y) aa3 ro3 rv3 _ _ ls (by omega) (by omega) hmc (hgo.symm.trans hres) hrv3 hP hS (lv_sub hl [0, 4, 5, 6] rfl)
                            · exact absurd rfl c_34
                          · have n_32 : ¬ ((cd ai3) = 44) := fun z => c_32 ((nI_eq (a := (cd ai3)) (b := 44) (by omega) (by omega)).mpr z)
                            refine lv_iconst (v := 1) hx hb dX6_go_160 (by decide) ?_
                            refine lv_goto (tgt := 165) hx hb dX6_go_161 (by decide) ?_
                            refine w_put (C := RX6) (T := TX6) (N := 11) (ci := 6) (v := .int 1) (ty := .boolean) hx hb hts hin6 tyX6 tyX6_ok nmX6 hown hK hP hI hA hS 0 (by decide) rfl rfl 9 (by decide) (hts (.fieldLink RX6 115 "MixedBlocksModel" "isWrong" "Z") (List.mem_of_getElem? (i := 2) rfl)) (fun _ h9 => h9) rfl (by decide +kernel) rfl rfl (Nat.le_of_ble_eq_true rfl) dX6_go_165 (moF E g th (mdE nb va ((spM nb (snN el fi la (100 - mn)) fi y).1) rv3) aa3 sv sm tx ln ro3 ai3 true dg) rfl mo_ne0 (fun H_37 locs_37 hP hS => ?_)
                            refine lv_aload_n hx hb dX6_go_168 rfl (lv_at hl 5 rfl) ?_
                            refine lv_dup hx hb dX6_go_169 rfl ?_
                            refine w_get (C := RX6) (T := TX6) (N := 11) (ci := 6) (v := .int (nI ai3)) hx hb hts hin6 hown hK hP 0 (by decide) rfl rfl 8 (by decide) (hts (.fieldLink RX6 109 "MixedBlocksModel" "at" "I") (List.mem_of_getElem? (i := 1) rfl)) (fun _ h9 => h9) rfl dX6_go_170 ?_
                            refine lv_aload_n hx hb dX6_go_173 rfl (lv_at hl 5 rfl) ?_
                            refine w_get (C := RX6) (T := TX6) (N := 11) (ci := 6) (v := .int ((bI true))) hx hb hts hin6 hown hK hP 0 (by decide) rfl rfl 9 (by decide) (hts (.fieldLink RX6 115 "MixedBlocksModel" "isWrong" "Z") (List.mem_of_getElem? (i := 2) rfl)) (fun _ h9 => h9) rfl dX6_go_174 ?_
                            refine lv_if_eq (tgt := 184) hx hb dX6_go_177 (by decide) (fun c_38 => ?_) (fun c_38 => ?_)
                            · exact absurd c_38 (by decide)
                            · refine lv_iconst (v := 0) hx hb dX6_go_180 (by decide) ?_
                              refine lv_goto (tgt := 185) hx hb dX6_go_181 (by decide) ?_
                              refine lv_iadd hx hb dX6_go_185 ?_
                              rw [show (nI ai3) + 0 = nI (ai3 + 0) from nI_add ai3 0]
                              refine w_put (C := RX6) (T := TX6) (N := 11) (ci := 6) (v := .int (nI (ai3 + 0))) (ty := .int) hx hb hts hin6 tyX6 tyX6_ok nmX6 hown hK hP hI hA hS 0 (by decide) rfl rfl 8 (by decide) (hts (.fieldLink RX6 109 "MixedBlocksModel" "at" "I") (List.mem_of_getElem? (i := 1) rfl)) (fun _ h9 => h9) rfl (by decide +kernel) rfl rfl (Nat.le_of_ble_eq_true rfl) dX6_go_186 (moF E g th (mdE nb va ((spM nb (snN el fi la (100 - mn)) fi y).1) rv3) aa3 sv sm tx ln ro3 (ai3 + 0) true dg) rfl mo_ne0 (fun H_39 locs_39 hP hS => ?_)
                              refine lv_aload_n hx hb dX6_go_189 rfl (lv_at hl 5 rfl) ?_
                              refine w_get (C := RX6) (T := TX6) (N := 11) (ci := 6) (v := .int ((bI true))) hx hb hts hin6 hown hK hP 0 (by decide) rfl rfl 9 (by decide) (hts (.fieldLink RX6 115 "MixedBlocksModel" "isWrong" "Z") (List.mem_of_getElem? (i := 2) rfl)) (fun _ h9 => h9) rfl dX6_go_190 ?_
                              refine lv_if_ne (tgt := 200) hx hb dX6_go_193 (by decide) (fun c_40 => ?_) (fun c_40 => ?_)
                              · refine lv_iconst (v := 0) hx hb dX6_go_200 (by decide) ?_
                                refine lv_istore_n (lv' := [(3, .int 0), (6, .int (nI i3)), (4, .int (nI fi)), (5, .int (nI la)), (2, .int (nI (mn + (snN el fi la (100 - mn))))), (0, .ref ((g 0))), (1, .int ((bI el)))]) hx hb dX6_go_201 rfl hl (by decide) rfl (fun ls hl => ?_)
                                refine lv_goto (tgt := 14) hx hb dX6_go_202 (by decide) ?_
                                have hgo := goM_w (nb := nb) (el := el) (k := k) (mn := mn) (y := y) hit hw3 (by omega) (by omega)
                                have hq := hres.symm.trans hgo
                                refine lv_iload_n hx hb dX6_go_14 rfl (lv_at hl 0 rfl) ?_
                                refine lv_if_eq (tgt := 205) hx hb dX6_go_15 (by decide) (fun c_41 => ?_) (fun c_41 => ?_)
                                · refine lv_iload_n hx hb dX6_go_205 rfl (lv_at hl 4 rfl) ?_
                                  exact W.iret (v := (nI (mn + (snN el fi la (100 - mn))))) hx hb hr (fun t ht hW => ⟨⟨_, (), rfl, (by show _ = _; rw [hq]), (by show moZ E g th sv sm tx ln ((goM cd ln nb el (ln + 1) 0 0 (se, rc)).2.1) ((goM cd ln nb el (ln + 1) 0 0 (se, rc)).1) dg nb va ((goM cd ln nb el (ln + 1) 0 0 (se, rc)).2.2.2.1) ((goM cd ln nb el (ln + 1) 0 0 (se, rc)).2.2.2.2) (t.heap); rw [ht, hq]; exact ⟨_, _, _, hP, hrv3⟩)⟩, hS.F ht⟩) hS.2.2 dX6_go_206
                                · exact absurd rfl c_41
                              · exact absurd c_40 (by decide)
                  · have n_23 : ¬ (100 ≤ mn3) := fun z => c_23 ((nI_leI (a := 100) (b := mn3) (by omega) (by omega)).mpr z)
                    exfalso
                    omega
            | succ k3 ihk3 =>
              intro i3 mn3 y3 aa3 ro3 rv3 H locs ls h31 h32 h33 h34 hres3 hrv3 hP hS hl
              refine lv_iload hx hb dX6_go_83 (lv_at hl 0 rfl) ?_
              refine lv_iload hx hb dX6_go_85 (lv_at hl 2 rfl) ?_
              refine lv_icmp_gt (tgt := 117) hx hb dX6_go_87 (by decide) (fun c_42 => ?_) (fun c_42 => ?_)
              · have n_42 : la < i3 := (nI_ltI (a := la) (b := i3) (by omega) (by omega)).mp c_42
                exfalso
                omega
              · have n_42 : ¬ (la < i3) := fun z => c_42 ((nI_ltI (a := la) (b := i3) (by omega) (by omega)).mpr z)
                refine lv_iload_n hx hb dX6_go_90 rfl (lv_at hl 5 rfl) ?_
                refine lv_if_eq (tgt := 117) hx hb dX6_go_91 (by decide) (fun c_43 => ?_) (fun c_43 => ?_)
                · rw [hel] at c_43; exact absurd c_43 (by decide)
                · refine lv_iload_n hx hb dX6_go_94 rfl (lv_at hl 3 rfl) ?_
                  refine lv_bipush (v := 100) hx hb dX6_go_95 (by decide) ?_
                  refine lv_icmp_ge (tgt := 117) hx hb dX6_go_97 (by decide) (fun c_44 => ?_) (fun c_44 => ?_)
                  · have n_44 : 100 ≤ mn3 := (nI_leI (a := 100) (b := mn3) (by omega) (by omega)).mp c_44
                    exfalso
                    omega
                  · have n_44 : ¬ (100 ≤ mn3) := fun z => c_44 ((nI_leI (a := 100) (b := mn3) (by omega) (by omega)).mpr z)
                    refine lv_aload_n hx hb dX6_go_100 rfl (lv_at hl 4 rfl) ?_
                    refine lv_iload hx hb dX6_go_101 (lv_at hl 0 rfl) ?_
                    refine va_calli (va_runV (As := [.int (nI i3)]) (rest := []) ⟨hx, hb, hml, hown, hts⟩ (c_X6_sends l E g th sv sm tx ln ai3 wr3 dg nb va y3.1 y3.2 i3 (by omega) hnb2 hnb) (cwV 1 hts gX6_go_X6_sends rfl rfl rfl (by decide +kernel) ⟨Nat.le_of_ble_eq_true rfl, Nat.le_of_ble_eq_true rfl⟩) ⟨wS.blind, (w_recv hK hP 0 (by decide) rfl (ci := 6) rfl), fun U hU hW => wS.go ⟨_, _, _, hP, hrv3⟩ hK hI hU hW⟩ rfl rfl hl.1 rfl (lv_room (Nat.le_of_ble_eq_true rfl)) dX6_go_103 ⟨Nat.zero_le _, Nat.zero_le _⟩) hS (fun q _ h => h) (fun q h => h) (fun r_45 uu t H_45 locs_45 ht hvm hw hB hz1 hk1 hS => ?_)
                    rw [ht] at hB
                    obtain ⟨aa_45, ro_45, rv_45, hP, hrv_45⟩ := hB
                    have hP : wP E 6 g (moF E g th (mdE nb va (y3.1 + 1) rv_45) aa_45 sv sm tx ln ro_45 ai3 wr3 dg) H_45 := hP
                    obtain rfl : r_45 = (sumM (mskM nb i3) y3.2 3) := hw
                    refine lv_istore (lv' := [(7, .int ((sumM (mskM nb i3) y3.2 3))), (6, .int (nI i3)), (4, .int (nI fi)), (5, .int (nI la)), (2, .int (nI mn3)), (0, .ref ((g 0))), (1, .int ((bI el)))]) hx hb dX6_go_106 hl (by decide) rfl (fun ls hl => ?_)
                    refine lv_iinc (v := (nI (mn3 + 1))) (lv' := [(2, .int (nI (mn3 + 1))), (7, .int ((sumM (mskM nb i3) y3.2 3))), (6, .int (nI i3)), (4, .int (nI fi)), (5, .int (nI la)), (0, .ref ((g 0))), (1, .int ((bI el)))]) hx hb dX6_go_108 hl (k := 4) rfl (nI_1 _) (by decide) rfl (fun ls hl => ?_)
                    refine lv_iinc (v := (nI (i3 + 1))) (lv' := [(6, .int (nI (i3 + 1))), (2, .int (nI (mn3 + 1))), (7, .int ((sumM (mskM nb i3) y3.2 3))), (4, .int (nI fi)), (5, .int (nI la)), (0, .ref ((g 0))), (1, .int ((bI el)))]) hx hb dX6_go_111 hl (k := 2) rfl (nI_1 _) (by decide) rfl (fun ls hl => ?_)
                    refine lv_goto (tgt := 83) hx hb dX6_go_114 (by decide) ?_
                    exact ihk3 (i3 + 1) (mn3 + 1) (sdM nb i3 y3) aa_45 ro_45 rv_45 _ _ ls (by omega) (by omega) (by omega) (by omega) hres3 hrv_45 hP hS (lv_sub hl [0, 3, 4, 1, 5, 6] rfl)
          exact L83 (snN el fi la (100 - mn)) fi mn y aa2 ro2 rv2 _ _ ls hs1 hs2 rfl (by omega) rfl hrv2 hP hS (lv_sub hl [0, 1, 2, 3, 4, 5] rfl)
        · have hc0 : (snN el fi la (100 - mn)) = 0 := by rw [hel]; rfl
          have hmc : mn + (snN el fi la (100 - mn)) ≤ 100 := by rw [hc0]; exact hmn
          refine lv_iload hx hb dX6_go_83 (lv_at hl 0 rfl) ?_
          refine lv_iload hx hb dX6_go_85 (lv_at hl 2 rfl) ?_
          refine lv_icmp_gt (tgt := 117) hx hb dX6_go_87 (by decide) (fun c_46 => ?_) (fun c_46 => ?_)
          · have n_46 : la < fi := (nI_ltI (a := la) (b := fi) (by omega) (by omega)).mp c_46
            have hy3 : y = spM nb (snN el fi la (100 - mn)) fi y := by rw [hc0]; rfl
            have hm3 : mn = mn + (snN el fi la (100 - mn)) := by omega
            rw [show Value.int (nI mn) = Value.int (nI (mn + (snN el fi la (100 - mn)))) from by rw [← hm3]] at hl
            rw [show mdE nb va y.1 rv2 = mdE nb va (spM nb (snN el fi la (100 - mn)) fi y).1 rv2 from by rw [← hy3]] at hP
            have hrv2 : ∀ j9, j9 < 3 → rvP ((spM nb (snN el fi la (100 - mn)) fi y).2 j9) (rv2 j9) := by rw [← hy3]; exact hrv2
            refine lv_aload_n hx hb dX6_go_117 rfl (lv_at hl 4 rfl) ?_
            refine w_get (C := RX6) (T := TX6) (N := 11) (ci := 6) (v := .int ((bI wr3))) hx hb hts hin6 hown hK hP 0 (by decide) rfl rfl 9 (by decide) (hts (.fieldLink RX6 115 "MixedBlocksModel" "isWrong" "Z") (List.mem_of_getElem? (i := 2) rfl)) (fun _ h9 => h9) rfl dX6_go_118 ?_
            refine lv_if_ne (tgt := 139) hx hb dX6_go_121 (by decide) (fun c_47 => ?_) (fun c_47 => ?_)
            · refine lv_iconst (v := 0) hx hb dX6_go_139 (by decide) ?_
              refine lv_istore_n (lv' := [(3, .int 0), (6, .int (nI fi)), (4, .int (nI fi)), (5, .int (nI la)), (2, .int (nI (mn + (snN el fi la (100 - mn))))), (0, .ref ((g 0))), (1, .int ((bI el)))]) hx hb dX6_go_140 rfl hl (by decide) rfl (fun ls hl => ?_)
              refine lv_iload_n hx hb dX6_go_141 rfl (lv_at hl 0 rfl) ?_
              refine lv_if_eq (tgt := 202) hx hb dX6_go_142 (by decide) (fun c_48 => ?_) (fun c_48 => ?_)
              · refine lv_goto (tgt := 14) hx hb dX6_go_202 (by decide) ?_
                have hgo := goM_e (nb := nb) (el := el) (k := k) (mn := mn) (y := y) hit (Or.inl (bI_1 c_47))
                have hq := hres.symm.trans hgo
                refine lv_iload_n hx hb dX6_go_14 rfl (lv_at hl 0 rfl) ?_
                refine lv_if_eq (tgt := 205) hx hb dX6_go_15 (by decide) (fun c_49 => ?_) (fun c_49 => ?_)
                · refine lv_iload_n hx hb dX6_go_205 rfl (lv_at hl 4 rfl) ?_
                  exact W.iret (v := (nI (mn + (snN el fi la (100 - mn))))) hx hb hr (fun t ht hW => ⟨⟨_, (), rfl, (by show _ = _; rw [hq]), (by show moZ E g th sv sm tx ln ((goM cd ln nb el (ln + 1) 0 0 (se, rc)).2.1) ((goM cd ln nb el (ln + 1) 0 0 (se, rc)).1) dg nb va ((goM cd ln nb el (ln + 1) 0 0 (se, rc)).2.2.2.1) ((goM cd ln nb el (ln + 1) 0 0 (se, rc)).2.2.2.2) (t.heap); rw [ht, hq]; exact ⟨_, _, _, hP, hrv2⟩)⟩, hS.F ht⟩) hS.2.2 dX6_go_206
                · exact absurd rfl c_49
              · exact absurd rfl c_48
            · have hw3 : wr3 = false := bI_0 c_47
              refine lv_aload_n hx hb dX6_go_124 rfl (lv_at hl 4 rfl) ?_
              refine w_get (C := RX6) (T := TX6) (N := 11) (ci := 6) (v := .int (nI ai3)) hx hb hts hin6 hown hK hP 0 (by decide) rfl rfl 8 (by decide) (hts (.fieldLink RX6 109 "MixedBlocksModel" "at" "I") (List.mem_of_getElem? (i := 1) rfl)) (fun _ h9 => h9) rfl dX6_go_125 ?_
              refine lv_aload_n hx hb dX6_go_128 rfl (lv_at hl 4 rfl) ?_
              refine w_get (C := RX6) (T := TX6) (N := 11) (ci := 6) (v := .int (nI ln)) hx hb hts hin6 hown hK hP 0 (by decide) rfl rfl 6 (by decide) (hts (.fieldLink RX6 106 "MixedBlocksModel" "length" "I") (List.mem_of_getElem? (i := 3) rfl)) (fun _ h9 => h9) rfl dX6_go_129 ?_
              refine lv_icmp_ge (tgt := 139) hx hb dX6_go_132 (by decide) (fun c_50 => ?_) (fun c_50 => ?_)
              · have n_50 : ln ≤ ai3 := (nI_leI (a := ln) (b := ai3) (by omega) (by omega)).mp c_50
                refine lv_iconst (v := 0) hx hb dX6_go_139 (by decide) ?_
                refine lv_istore_n (lv' := [(3, .int 0), (6, .int (nI fi)), (4, .int (nI fi)), (5, .int (nI la)), (2, .int (nI (mn + (snN el fi la (100 - mn))))), (0, .ref ((g 0))), (1, .int ((bI el)))]) hx hb dX6_go_140 rfl hl (by decide) rfl (fun ls hl => ?_)
                refine lv_iload_n hx hb dX6_go_141 rfl (lv_at hl 0 rfl) ?_
                refine lv_if_eq (tgt := 202) hx hb dX6_go_142 (by decide) (fun c_51 => ?_) (fun c_51 => ?_)
                · refine lv_goto (tgt := 14) hx hb dX6_go_202 (by decide) ?_
                  have hgo := goM_e (nb := nb) (el := el) (k := k) (mn := mn) (y := y) hit (Or.inr (by omega))
                  have hq := hres.symm.trans hgo
                  refine lv_iload_n hx hb dX6_go_14 rfl (lv_at hl 0 rfl) ?_
                  refine lv_if_eq (tgt := 205) hx hb dX6_go_15 (by decide) (fun c_52 => ?_) (fun c_52 => ?_)
                  · refine lv_iload_n hx hb dX6_go_205 rfl (lv_at hl 4 rfl) ?_
                    exact W.iret (v := (nI (mn + (snN el fi la (100 - mn))))) hx hb hr (fun t ht hW => ⟨⟨_, (), rfl, (by show _ = _; rw [hq]), (by show moZ E g th sv sm tx ln ((goM cd ln nb el (ln + 1) 0 0 (se, rc)).2.1) ((goM cd ln nb el (ln + 1) 0 0 (se, rc)).1) dg nb va ((goM cd ln nb el (ln + 1) 0 0 (se, rc)).2.2.2.1) ((goM cd ln nb el (ln + 1) 0 0 (se, rc)).2.2.2.2) (t.heap); rw [ht, hq]; exact ⟨_, _, _, hP, hrv2⟩)⟩, hS.F ht⟩) hS.2.2 dX6_go_206
                  · exact absurd rfl c_52
                · exact absurd rfl c_51
              · have n_50 : ¬ (ln ≤ ai3) := fun z => c_50 ((nI_leI (a := ln) (b := ai3) (by omega) (by omega)).mpr z)
                refine lv_iconst (v := 1) hx hb dX6_go_135 (by decide) ?_
                refine lv_goto (tgt := 140) hx hb dX6_go_136 (by decide) ?_
                refine lv_istore_n (lv' := [(3, .int 1), (6, .int (nI fi)), (4, .int (nI fi)), (5, .int (nI la)), (2, .int (nI (mn + (snN el fi la (100 - mn))))), (0, .ref ((g 0))), (1, .int ((bI el)))]) hx hb dX6_go_140 rfl hl (by decide) rfl (fun ls hl => ?_)
                refine lv_iload_n hx hb dX6_go_141 rfl (lv_at hl 0 rfl) ?_
                refine lv_if_eq (tgt := 202) hx hb dX6_go_142 (by decide) (fun c_53 => ?_) (fun c_53 => ?_)
                · exact absurd c_53 (by decide)
                · refine lv_aload_n hx hb dX6_go_145 rfl (lv_at hl 5 rfl) ?_
                  refine lv_aload_n hx hb dX6_go_146 rfl (lv_at hl 5 rfl) ?_
                  refine w_get (C := RX6) (T := TX6) (N := 11) (ci := 6) (v := .ref ((g 4))) hx hb hts hin6 hown hK hP 0 (by decide) rfl rfl 5 (by decide) (hts (.fieldLink RX6 19 "MixedBlocksModel" "text" "[I") (List.mem_of_getElem? (i := 4) rfl)) (fun _ h9 => h9) rfl dX6_go_147 ?_
                  refine lv_aload_n hx hb dX6_go_150 rfl (lv_at hl 5 rfl) ?_
                  refine w_get (C := RX6) (T := TX6) (N := 11) (ci := 6) (v := .int (nI ai3)) hx hb hts hin6 hown hK hP 0 (by decide) rfl rfl 8 (by decide) (hts (.fieldLink RX6 109 "MixedBlocksModel" "at" "I") (List.mem_of_getElem? (i := 1) rfl)) (fun _ h9 => h9) rfl dX6_go_151 ?_
                  refine w_iald hx hb hK hP 4 (by decide) rfl (vp_in_nI (by omega) (by decide)) dX6_go_154 ?_
                  have hcb_54 := hcs (ai3) (by omega)
                  rw [nI_clamp (by omega), htx _ (by omega)]
                  refine lv_bipush (v := 44) hx hb dX6_go_155 (by decide) ?_
                  refine lv_icmp_eq (tgt := 164) hx hb dX6_go_157 (by decide) (fun c_55 => ?_) (fun c_55 => ?_)
                  · have n_55 : (cd ai3) = 44 := (nI_eq (a := (cd ai3)) (b := 44) (by omega) (by omega)).mp c_55
                    refine lv_iconst (v := 0) hx hb dX6_go_164 (by decide) ?_
                    refine w_put (C := RX6) (T := TX6) (N := 11) (ci := 6) (v := .int 0) (ty := .boolean) hx hb hts hin6 tyX6 tyX6_ok nmX6 hown hK hP hI hA hS 0 (by decide) rfl rfl 9 (by decide) (hts (.fieldLink RX6 115 "MixedBlocksModel" "isWrong" "Z") (List.mem_of_getElem? (i := 2) rfl)) (fun _ h9 => h9) rfl (by decide +kernel) rfl rfl (Nat.le_of_ble_eq_true rfl) dX6_go_165 (moF E g th (mdE nb va ((spM nb (snN el fi la (100 - mn)) fi y).1) rv2) aa2 sv sm tx ln ro2 ai3 false dg) rfl mo_ne0 (fun H_56 locs_56 hP hS => ?_)
                    refine lv_aload_n hx hb dX6_go_168 rfl (lv_at hl 5 rfl) ?_
                    refine lv_dup hx hb dX6_go_169 rfl ?_
                    refine w_get (C := RX6) (T := TX6) (N := 11) (ci := 6) (v := .int (nI ai3)) hx hb hts hin6 hown hK hP 0 (by decide) rfl rfl 8 (by decide) (hts (.fieldLink RX6 109 "MixedBlocksModel" "at" "I") (List.mem_of_getElem? (i := 1) rfl)) (fun _ h9 => h9) rfl dX6_go_170 ?_
                    refine lv_aload_n hx hb dX6_go_173 rfl (lv_at hl 5 rfl) ?_
                    refine w_get (C := RX6) (T := TX6) (N := 11) (ci := 6) (v := .int ((bI false))) hx hb hts hin6 hown hK hP 0 (by decide) rfl rfl 9 (by decide) (hts (.fieldLink RX6 115 "MixedBlocksModel" "isWrong" "Z") (List.mem_of_getElem? (i := 2) rfl)) (fun _ h9 => h9) rfl dX6_go_174 ?_
                    refine lv_if_eq (tgt := 184) hx hb dX6_go_177 (by decide) (fun c_57 => ?_) (fun c_57 => ?_)
                    · refine lv_iconst (v := 1) hx hb dX6_go_184 (by decide) ?_
                      refine lv_iadd hx hb dX6_go_185 ?_
                      rw [show (nI ai3) + 1 = nI (ai3 + 1) from nI_add ai3 1]
                      refine w_put (C := RX6) (T := TX6) (N := 11) (ci := 6) (v := .int (nI (ai3 + 1))) (ty := .int) hx hb hts hin6 tyX6 tyX6_ok nmX6 hown hK hP hI hA hS 0 (by decide) rfl rfl 8 (by decide) (hts (.fieldLink RX6 109 "MixedBlocksModel" "at" "I") (List.mem_of_getElem? (i := 1) rfl)) (fun _ h9 => h9) rfl (by decide +kernel) rfl rfl (Nat.le_of_ble_eq_true rfl) dX6_go_186 (moF E g th (mdE nb va ((spM nb (snN el fi la (100 - mn)) fi y).1) rv2) aa2 sv sm tx ln ro2 (ai3 + 1) false dg) rfl mo_ne0 (fun H_58 locs_58 hP hS => ?_)
                      refine lv_aload_n hx hb dX6_go_189 rfl (lv_at hl 5 rfl) ?_
                      refine w_get (C := RX6) (T := TX6) (N := 11) (ci := 6) (v := .int ((bI false))) hx hb hts hin6 hown hK hP 0 (by decide) rfl rfl 9 (by decide) (hts (.fieldLink RX6 115 "MixedBlocksModel" "isWrong" "Z") (List.mem_of_getElem? (i := 2) rfl)) (fun _ h9 => h9) rfl dX6_go_190 ?_
                      refine lv_if_ne (tgt := 200) hx hb dX6_go_193 (by decide) (fun c_59 => ?_) (fun c_59 => ?_)
                      · exact absurd rfl c_59
                      · refine lv_iconst (v := 1) hx hb dX6_go_196 (by decide) ?_
                        refine lv_goto (tgt := 201) hx hb dX6_go_197 (by decide) ?_
                        refine lv_istore_n (lv' := [(3, .int 1), (6, .int (nI fi)), (4, .int (nI fi)), (5, .int (nI la)), (2, .int (nI (mn + (snN el fi la (100 - mn))))), (0, .ref ((g 0))), (1, .int ((bI el)))]) hx hb dX6_go_201 rfl hl (by decide) rfl (fun ls hl => ?_)
                        refine lv_goto (tgt := 14) hx hb dX6_go_202 (by decide) ?_
                        have hgo := goM_c (nb := nb) (el := el) (k := k) (mn := mn) (y := y) hit hw3 (by omega) (by omega)
                        exact ihk (ai3 + 1) (mn + snN el fi la (100 - mn)) (spM nb (snN el fi la (100 - mn)) fi y) aa2 ro2 rv2 _ _ ls (by omega) (by omega) hmc (hgo.symm.trans hres) hrv2 hP hS (lv_sub hl [0, 4, 5, 6] rfl)
                    · exact absurd rfl c_57
                  · have n_55 : ¬ ((cd ai3) = 44) := fun z => c_55 ((nI_eq (a := (cd ai3)) (b := 44) (by omega) (by omega)).mpr z)
                    refine lv_iconst (v := 1) hx hb dX6_go_160 (by decide) ?_
                    refine lv_goto (tgt := 165) hx hb dX6_go_161 (by decide) ?_
                    refine w_put (C := RX6) (T := TX6) (N := 11) (ci := 6) (v := .int 1) (ty := .boolean) hx hb hts hin6 tyX6 tyX6_ok nmX6 hown hK hP hI hA hS 0 (by decide) rfl rfl 9 (by decide) (hts (.fieldLink RX6 115 "MixedBlocksModel" "isWrong" "Z") (List.mem_of_getElem? (i := 2) rfl)) (fun _ h9 => h9) rfl (by decide +kernel) rfl rfl (Nat.le_of_ble_eq_true rfl) dX6_go_165 (moF E g th (mdE nb va ((spM nb (snN el fi la (100 - mn)) fi y).1) rv2) aa2 sv sm tx ln ro2 ai3 true dg) rfl mo_ne0 (fun H_60 locs_60 hP hS => ?_)
                    refine lv_aload_n hx hb dX6_go_168 rfl (lv_at hl 5 rfl) ?_
                    refine lv_dup hx hb dX6_go_169 rfl ?_
                    refine w_get (C := RX6) (T := TX6) (N := 11) (ci := 6) (v := .int (nI ai3)) hx hb hts hin6 hown hK hP 0 (by decide) rfl rfl 8 (by decide) (hts (.fieldLink RX6 109 "MixedBlocksModel" "at" "I") (List.mem_of_getElem? (i := 1) rfl)) (fun _ h9 => h9) rfl dX6_go_170 ?_
                    refine lv_aload_n hx hb dX6_go_173 rfl (lv_at hl 5 rfl) ?_
                    refine w_get (C := RX6) (T := TX6) (N := 11) (ci := 6) (v := .int ((bI true))) hx hb hts hin6 hown hK hP 0 (by decide) rfl rfl 9 (by decide) (hts (.fieldLink RX6 115 "MixedBlocksModel" "isWrong" "Z") (List.mem_of_getElem? (i := 2) rfl)) (fun _ h9 => h9) rfl dX6_go_174 ?_
                    refine lv_if_eq (tgt := 184) hx hb dX6_go_177 (by decide) (fun c_61 => ?_) (fun c_61 => ?_)
                    · exact absurd c_61 (by decide)
                    · refine lv_iconst (v := 0) hx hb dX6_go_180 (by decide) ?_
                      refine lv_goto (tgt := 185) hx hb dX6_go_181 (by decide) ?_
                      refine lv_iadd hx hb dX6_go_185 ?_
                      rw [show (nI ai3) + 0 = nI (ai3 + 0) from nI_add ai3 0]
                      refine w_put (C := RX6) (T := TX6) (N := 11) (ci := 6) (v := .int (nI (ai3 + 0))) (ty := .int) hx hb hts hin6 tyX6 tyX6_ok nmX6 hown hK hP hI hA hS 0 (by decide) rfl rfl 8 (by decide) (hts (.fieldLink RX6 109 "MixedBlocksModel" "at" "I") (List.mem_of_getElem? (i := 1) rfl)) (fun _ h9 => h9) rfl (by decide +kernel) rfl rfl (Nat.le_of_ble_eq_true rfl) dX6_go_186 (moF E g th (mdE nb va ((spM nb (snN el fi la (100 - mn)) fi y).1) rv2) aa2 sv sm tx ln ro2 (ai3 + 0) true dg) rfl mo_ne0 (fun H_62 locs_62 hP hS => ?_)
                      refine lv_aload_n hx hb dX6_go_189 rfl (lv_at hl 5 rfl) ?_
                      refine w_get (C := RX6) (T := TX6) (N := 11) (ci := 6) (v := .int ((bI true))) hx hb hts hin6 hown hK hP 0 (by decide) rfl rfl 9 (by decide) (hts (.fieldLink RX6 115 "MixedBlocksModel" "isWrong" "Z") (List.mem_of_getElem? (i := 2) rfl)) (fun _ h9 => h9) rfl dX6_go_190 ?_
                      refine lv_if_ne (tgt := 200) hx hb dX6_go_193 (by decide) (fun c_63 => ?_) (fun c_63 => ?_)
                      · refine lv_iconst (v := 0) hx hb dX6_go_200 (by decide) ?_
                        refine lv_istore_n (lv' := [(3, .int 0), (6, .int (nI fi)), (4, .int (nI fi)), (5, .int (nI la)), (2, .int (nI (mn + (snN el fi la (100 - mn))))), (0, .ref ((g 0))), (1, .int ((bI el)))]) hx hb dX6_go_201 rfl hl (by decide) rfl (fun ls hl => ?_)
                        refine lv_goto (tgt := 14) hx hb dX6_go_202 (by decide) ?_
                        have hgo := goM_w (nb := nb) (el := el) (k := k) (mn := mn) (y := y) hit hw3 (by omega) (by omega)
                        have hq := hres.symm.trans hgo
                        refine lv_iload_n hx hb dX6_go_14 rfl (lv_at hl 0 rfl) ?_
                        refine lv_if_eq (tgt := 205) hx hb dX6_go_15 (by decide) (fun c_64 => ?_) (fun c_64 => ?_)
                        · refine lv_iload_n hx hb dX6_go_205 rfl (lv_at hl 4 rfl) ?_
                          exact W.iret (v := (nI (mn + (snN el fi la (100 - mn))))) hx hb hr (fun t ht hW => ⟨⟨_, (), rfl, (by show _ = _; rw [hq]), (by show moZ E g th sv sm tx ln ((goM cd ln nb el (ln + 1) 0 0 (se, rc)).2.1) ((goM cd ln nb el (ln + 1) 0 0 (se, rc)).1) dg nb va ((goM cd ln nb el (ln + 1) 0 0 (se, rc)).2.2.2.1) ((goM cd ln nb el (ln + 1) 0 0 (se, rc)).2.2.2.2) (t.heap); rw [ht, hq]; exact ⟨_, _, _, hP, hrv2⟩)⟩, hS.F ht⟩) hS.2.2 dX6_go_206
                        · exact absurd rfl c_64
                      · exact absurd c_63 (by decide)
          · have n_46 : ¬ (la < fi) := fun z => c_46 ((nI_ltI (a := la) (b := fi) (by omega) (by omega)).mpr z)
            refine lv_iload_n hx hb dX6_go_90 rfl (lv_at hl 5 rfl) ?_
            refine lv_if_eq (tgt := 117) hx hb dX6_go_91 (by decide) (fun c_65 => ?_) (fun c_65 => ?_)
            · have hy3 : y = spM nb (snN el fi la (100 - mn)) fi y := by rw [hc0]; rfl
              have hm3 : mn = mn + (snN el fi la (100 - mn)) := by omega
              rw [show Value.int (nI mn) = Value.int (nI (mn + (snN el fi la (100 - mn)))) from by rw [← hm3]] at hl
              rw [show mdE nb va y.1 rv2 = mdE nb va (spM nb (snN el fi la (100 - mn)) fi y).1 rv2 from by rw [← hy3]] at hP
              have hrv2 : ∀ j9, j9 < 3 → rvP ((spM nb (snN el fi la (100 - mn)) fi y).2 j9) (rv2 j9) := by rw [← hy3]; exact hrv2
              refine lv_aload_n hx hb dX6_go_117 rfl (lv_at hl 4 rfl) ?_
              refine w_get (C := RX6) (T := TX6) (N := 11) (ci := 6) (v := .int ((bI wr3))) hx hb hts hin6 hown hK hP 0 (by decide) rfl rfl 9 (by decide) (hts (.fieldLink RX6 115 "MixedBlocksModel" "isWrong" "Z") (List.mem_of_getElem? (i := 2) rfl)) (fun _ h9 => h9) rfl dX6_go_118 ?_
              refine lv_if_ne (tgt := 139) hx hb dX6_go_121 (by decide) (fun c_66 => ?_) (fun c_66 => ?_)
              · refine lv_iconst (v := 0) hx hb dX6_go_139 (by decide) ?_
                refine lv_istore_n (lv' := [(3, .int 0), (6, .int (nI fi)), (4, .int (nI fi)), (5, .int (nI la)), (2, .int (nI (mn + (snN el fi la (100 - mn))))), (0, .ref ((g 0))), (1, .int ((bI el)))]) hx hb dX6_go_140 rfl hl (by decide) rfl (fun ls hl => ?_)
                refine lv_iload_n hx hb dX6_go_141 rfl (lv_at hl 0 rfl) ?_
                refine lv_if_eq (tgt := 202) hx hb dX6_go_142 (by decide) (fun c_67 => ?_) (fun c_67 => ?_)
                · refine lv_goto (tgt := 14) hx hb dX6_go_202 (by decide) ?_
                  have hgo := goM_e (nb := nb) (el := el) (k := k) (mn := mn) (y := y) hit (Or.inl (bI_1 c_66))
                  have hq := hres.symm.trans hgo
                  refine lv_iload_n hx hb dX6_go_14 rfl (lv_at hl 0 rfl) ?_
                  refine lv_if_eq (tgt := 205) hx hb dX6_go_15 (by decide) (fun c_68 => ?_) (fun c_68 => ?_)
                  · refine lv_iload_n hx hb dX6_go_205 rfl (lv_at hl 4 rfl) ?_
                    exact W.iret (v := (nI (mn + (snN el fi la (100 - mn))))) hx hb hr (fun t ht hW => ⟨⟨_, (), rfl, (by show _ = _; rw [hq]), (by show moZ E g th sv sm tx ln ((goM cd ln nb el (ln + 1) 0 0 (se, rc)).2.1) ((goM cd ln nb el (ln + 1) 0 0 (se, rc)).1) dg nb va ((goM cd ln nb el (ln + 1) 0 0 (se, rc)).2.2.2.1) ((goM cd ln nb el (ln + 1) 0 0 (se, rc)).2.2.2.2) (t.heap); rw [ht, hq]; exact ⟨_, _, _, hP, hrv2⟩)⟩, hS.F ht⟩) hS.2.2 dX6_go_206
                  · exact absurd rfl c_68
                · exact absurd rfl c_67
              · have hw3 : wr3 = false := bI_0 c_66
                refine lv_aload_n hx hb dX6_go_124 rfl (lv_at hl 4 rfl) ?_
                refine w_get (C := RX6) (T := TX6) (N := 11) (ci := 6) (v := .int (nI ai3)) hx hb hts hin6 hown hK hP 0 (by decide) rfl rfl 8 (by decide) (hts (.fieldLink RX6 109 "MixedBlocksModel" "at" "I") (List.mem_of_getElem? (i := 1) rfl)) (fun _ h9 => h9) rfl dX6_go_125 ?_
                refine lv_aload_n hx hb dX6_go_128 rfl (lv_at hl 4 rfl) ?_
                refine w_get (C := RX6) (T := TX6) (N := 11) (ci := 6) (v := .int (nI ln)) hx hb hts hin6 hown hK hP 0 (by decide) rfl rfl 6 (by decide) (hts (.fieldLink RX6 106 "MixedBlocksModel" "length" "I") (List.mem_of_getElem? (i := 3) rfl)) (fun _ h9 => h9) rfl dX6_go_129 ?_
                refine lv_icmp_ge (tgt := 139) hx hb dX6_go_132 (by decide) (fun c_69 => ?_) (fun c_69 => ?_)
                · have n_69 : ln ≤ ai3 := (nI_leI (a := ln) (b := ai3) (by omega) (by omega)).mp c_69
                  refine lv_iconst (v := 0) hx hb dX6_go_139 (by decide) ?_
                  refine lv_istore_n (lv' := [(3, .int 0), (6, .int (nI fi)), (4, .int (nI fi)), (5, .int (nI la)), (2, .int (nI (mn + (snN el fi la (100 - mn))))), (0, .ref ((g 0))), (1, .int ((bI el)))]) hx hb dX6_go_140 rfl hl (by decide) rfl (fun ls hl => ?_)
                  refine lv_iload_n hx hb dX6_go_141 rfl (lv_at hl 0 rfl) ?_
                  refine lv_if_eq (tgt := 202) hx hb dX6_go_142 (by decide) (fun c_70 => ?_) (fun c_70 => ?_)
                  · refine lv_goto (tgt := 14) hx hb dX6_go_202 (by decide) ?_
                    have hgo := goM_e (nb := nb) (el := el) (k := k) (mn := mn) (y := y) hit (Or.inr (by omega))
                    have hq := hres.symm.trans hgo
                    refine lv_iload_n hx hb dX6_go_14 rfl (lv_at hl 0 rfl) ?_
                    refine lv_if_eq (tgt := 205) hx hb dX6_go_15 (by decide) (fun c_71 => ?_) (fun c_71 => ?_)
                    · refine lv_iload_n hx hb dX6_go_205 rfl (lv_at hl 4 rfl) ?_
                      exact W.iret (v := (nI (mn + (snN el fi la (100 - mn))))) hx hb hr (fun t ht hW => ⟨⟨_, (), rfl, (by show _ = _; rw [hq]), (by show moZ E g th sv sm tx ln ((goM cd ln nb el (ln + 1) 0 0 (se, rc)).2.1) ((goM cd ln nb el (ln + 1) 0 0 (se, rc)).1) dg nb va ((goM cd ln nb el (ln + 1) 0 0 (se, rc)).2.2.2.1) ((goM cd ln nb el (ln + 1) 0 0 (se, rc)).2.2.2.2) (t.heap); rw [ht, hq]; exact ⟨_, _, _, hP, hrv2⟩)⟩, hS.F ht⟩) hS.2.2 dX6_go_206
                    · exact absurd rfl c_71
                  · exact absurd rfl c_70
                · have n_69 : ¬ (ln ≤ ai3) := fun z => c_69 ((nI_leI (a := ln) (b := ai3) (by omega) (by omega)).mpr z)
                  refine lv_iconst (v := 1) hx hb dX6_go_135 (by decide) ?_
                  refine lv_goto (tgt := 140) hx hb dX6_go_136 (by decide) ?_
                  refine lv_istore_n (lv' := [(3, .int 1), (6, .int (nI fi)), (4, .int (nI fi)), (5, .int (nI la)), (2, .int (nI (mn + (snN el fi la (100 - mn))))), (0, .ref ((g 0))), (1, .int ((bI el)))]) hx hb dX6_go_140 rfl hl (by decide) rfl (fun ls hl => ?_)
                  refine lv_iload_n hx hb dX6_go_141 rfl (lv_at hl 0 rfl) ?_
                  refine lv_if_eq (tgt := 202) hx hb dX6_go_142 (by decide) (fun c_72 => ?_) (fun c_72 => ?_)
                  · exact absurd c_72 (by decide)
                  · refine lv_aload_n hx hb dX6_go_145 rfl (lv_at hl 5 rfl) ?_
                    refine lv_aload_n hx hb dX6_go_146 rfl (lv_at hl 5 rfl) ?_
                    refine w_get (C := RX6) (T := TX6) (N := 11) (ci := 6) (v := .ref ((g 4))) hx hb hts hin6 hown hK hP 0 (by decide) rfl rfl 5 (by decide) (hts (.fieldLink RX6 19 "MixedBlocksModel" "text" "[I") (List.mem_of_getElem? (i := 4) rfl)) (fun _ h9 => h9) rfl dX6_go_147 ?_
                    refine lv_aload_n hx hb dX6_go_150 rfl (lv_at hl 5 rfl) ?_
                    refine w_get (C := RX6) (T := TX6) (N := 11) (ci := 6) (v := .int (nI ai3)) hx hb hts hin6 hown hK hP 0 (by decide) rfl rfl 8 (by decide) (hts (.fieldLink RX6 109 "MixedBlocksModel" "at" "I") (List.mem_of_getElem? (i := 1) rfl)) (fun _ h9 => h9) rfl dX6_go_151 ?_
                    refine w_iald hx hb hK hP 4 (by decide) rfl (vp_in_nI (by omega) (by decide)) dX6_go_154 ?_
                    have hcb_73 := hcs (ai3) (by omega)
                    rw [nI_clamp (by omega), htx _ (by omega)]
                    refine lv_bipush (v := 44) hx hb dX6_go_155 (by decide) ?_
                    refine lv_icmp_eq (tgt := 164) hx hb dX6_go_157 (by decide) (fun c_74 => ?_) (fun c_74 => ?_)
                    · have n_74 : (cd ai3) = 44 := (nI_eq (a := (cd ai3)) (b := 44) (by omega) (by omega)).mp c_74
                      refine lv_iconst (v := 0) hx hb dX6_go_164 (by decide) ?_
                      refine w_put (C := RX6) (T := TX6) (N := 11) (ci := 6) (v := .int 0) (ty := .boolean) hx hb hts hin6 tyX6 tyX6_ok nmX6 hown hK hP hI hA hS 0 (by decide) rfl rfl 9 (by decide) (hts (.fieldLink RX6 115 "MixedBlocksModel" "isWrong" "Z") (List.mem_of_getElem? (i := 2) rfl)) (fun _ h9 => h9) rfl (by decide +kernel) rfl rfl (Nat.le_of_ble_eq_true rfl) dX6_go_165 (moF E g th (mdE nb va ((spM nb (snN el fi la (100 - mn)) fi y).1) rv2) aa2 sv sm tx ln ro2 ai3 false dg) rfl mo_ne0 (fun H_75 locs_75 hP hS => ?_)
                      refine lv_aload_n hx hb dX6_go_168 rfl (lv_at hl 5 rfl) ?_
                      refine lv_dup hx hb dX6_go_169 rfl ?_
                      refine w_get (C := RX6) (T := TX6) (N := 11) (ci := 6) (v := .int (nI ai3)) hx hb hts hin6 hown hK hP 0 (by decide) rfl rfl 8 (by decide) (hts (.fieldLink RX6 109 "MixedBlocksModel" "at" "I") (List.mem_of_getElem? (i := 1) rfl)) (fun _ h9 => h9) rfl dX6_go_170 ?_
                      refine lv_aload_n hx hb dX6_go_173 rfl (lv_at hl 5 rfl) ?_
                      refine w_get (C := RX6) (T := TX6) (N := 11) (ci := 6) (v := .int ((bI false))) hx hb hts hin6 hown hK hP 0 (by decide) rfl rfl 9 (by decide) (hts (.fieldLink RX6 115 "MixedBlocksModel" "isWrong" "Z") (List.mem_of_getElem? (i := 2) rfl)) (fun _ h9 => h9) rfl dX6_go_174 ?_
                      refine lv_if_eq (tgt := 184) hx hb dX6_go_177 (by decide) (fun c_76 => ?_) (fun c_76 => ?_)
                      · refine lv_iconst (v := 1) hx hb dX6_go_184 (by decide) ?_
                        refine lv_iadd hx hb dX6_go_185 ?_
                        rw [show (nI ai3) + 1 = nI (ai3 + 1) from nI_add ai3 1]
                        refine w_put (C := RX6) (T := TX6) (N := 11) (ci := 6) (v := .int (nI (ai3 + 1))) (ty := .int) hx hb hts hin6 tyX6 tyX6_ok nmX6 hown hK hP hI hA hS 0 (by decide) rfl rfl 8 (by decide) (hts (.fieldLink RX6 109 "MixedBlocksModel" "at" "I") (List.mem_of_getElem? (i := 1) rfl)) (fun _ h9 => h9) rfl (by decide +kernel) rfl rfl (Nat.le_of_ble_eq_true rfl) dX6_go_186 (moF E g th (mdE nb va ((spM nb (snN el fi la (100 - mn)) fi y).1) rv2) aa2 sv sm tx ln ro2 (ai3 + 1) false dg) rfl mo_ne0 (fun H_77 locs_77 hP hS => ?_)
                        refine lv_aload_n hx hb dX6_go_189 rfl (lv_at hl 5 rfl) ?_
                        refine w_get (C := RX6) (T := TX6) (N := 11) (ci := 6) (v := .int ((bI false))) hx hb hts hin6 hown hK hP 0 (by decide) rfl rfl 9 (by decide) (hts (.fieldLink RX6 115 "MixedBlocksModel" "isWrong" "Z") (List.mem_of_getElem? (i := 2) rfl)) (fun _ h9 => h9) rfl dX6_go_190 ?_
                        refine lv_if_ne (tgt := 200) hx hb dX6_go_193 (by decide) (fun c_78 => ?_) (fun c_78 => ?_)
                        · exact absurd rfl c_78
                        · refine lv_iconst (v := 1) hx hb dX6_go_196 (by decide) ?_
                          refine lv_goto (tgt := 201) hx hb dX6_go_197 (by decide) ?_
                          refine lv_istore_n (lv' := [(3, .int 1), (6, .int (nI fi)), (4, .int (nI fi)), (5, .int (nI la)), (2, .int (nI (mn + (snN el fi la (100 - mn))))), (0, .ref ((g 0))), (1, .int ((bI el)))]) hx hb dX6_go_201 rfl hl (by decide) rfl (fun ls hl => ?_)
                          refine lv_goto (tgt := 14) hx hb dX6_go_202 (by decide) ?_
                          have hgo := goM_c (nb := nb) (el := el) (k := k) (mn := mn) (y := y) hit hw3 (by omega) (by omega)
                          exact ihk (ai3 + 1) (mn + snN el fi la (100 - mn)) (spM nb (snN el fi la (100 - mn)) fi y) aa2 ro2 rv2 _ _ ls (by omega) (by omega) hmc (hgo.symm.trans hres) hrv2 hP hS (lv_sub hl [0, 4, 5, 6] rfl)
                      · exact absurd rfl c_76
                    · have n_74 : ¬ ((cd ai3) = 44) := fun z => c_74 ((nI_eq (a := (cd ai3)) (b := 44) (by omega) (by omega)).mpr z)
                      refine lv_iconst (v := 1) hx hb dX6_go_160 (by decide) ?_
                      refine lv_goto (tgt := 165) hx hb dX6_go_161 (by decide) ?_
                      refine w_put (C := RX6) (T := TX6) (N := 11) (ci := 6) (v := .int 1) (ty := .boolean) hx hb hts hin6 tyX6 tyX6_ok nmX6 hown hK hP hI hA hS 0 (by decide) rfl rfl 9 (by decide) (hts (.fieldLink RX6 115 "MixedBlocksModel" "isWrong" "Z") (List.mem_of_getElem? (i := 2) rfl)) (fun _ h9 => h9) rfl (by decide +kernel) rfl rfl (Nat.le_of_ble_eq_true rfl) dX6_go_165 (moF E g th (mdE nb va ((spM nb (snN el fi la (100 - mn)) fi y).1) rv2) aa2 sv sm tx ln ro2 ai3 true dg) rfl mo_ne0 (fun H_79 locs_79 hP hS => ?_)
                      refine lv_aload_n hx hb dX6_go_168 rfl (lv_at hl 5 rfl) ?_
                      refine lv_dup hx hb dX6_go_169 rfl ?_
                      refine w_get (C := RX6) (T := TX6) (N := 11) (ci := 6) (v := .int (nI ai3)) hx hb hts hin6 hown hK hP 0 (by decide) rfl rfl 8 (by decide) (hts (.fieldLink RX6 109 "MixedBlocksModel" "at" "I") (List.mem_of_getElem? (i := 1) rfl)) (fun _ h9 => h9) rfl dX6_go_170 ?_
                      refine lv_aload_n hx hb dX6_go_173 rfl (lv_at hl 5 rfl) ?_
                      refine w_get (C := RX6) (T := TX6) (N := 11) (ci := 6) (v := .int ((bI true))) hx hb hts hin6 hown hK hP 0 (by decide) rfl rfl 9 (by decide) (hts (.fieldLink RX6 115 "MixedBlocksModel" "isWrong" "Z") (List.mem_of_getElem? (i := 2) rfl)) (fun _ h9 => h9) rfl dX6_go_174 ?_
                      refine lv_if_eq (tgt := 184) hx hb dX6_go_177 (by decide) (fun c_80 => ?_) (fun c_80 => ?_)
                      · exact absurd c_80 (by decide)
                      · refine lv_iconst (v := 0) hx hb dX6_go_180 (by decide) ?_
                        refine lv_goto (tgt := 185) hx hb dX6_go_181 (by decide) ?_
                        refine lv_iadd hx hb dX6_go_185 ?_
                        rw [show (nI ai3) + 0 = nI (ai3 + 0) from nI_add ai3 0]
                        refine w_put (C := RX6) (T := TX6) (N := 11) (ci := 6) (v := .int (nI (ai3 + 0))) (ty := .int) hx hb hts hin6 tyX6 tyX6_ok nmX6 hown hK hP hI hA hS 0 (by decide) rfl rfl 8 (by decide) (hts (.fieldLink RX6 109 "MixedBlocksModel" "at" "I") (List.mem_of_getElem? (i := 1) rfl)) (fun _ h9 => h9) rfl (by decide +kernel) rfl rfl (Nat.le_of_ble_eq_true rfl) dX6_go_186 (moF E g th (mdE nb va ((spM nb (snN el fi la (100 - mn)) fi y).1) rv2) aa2 sv sm tx ln ro2 (ai3 + 0) true dg) rfl mo_ne0 (fun H_81 locs_81 hP hS => ?_)
                        refine lv_aload_n hx hb dX6_go_189 rfl (lv_at hl 5 rfl) ?_
                        refine w_get (C := RX6) (T := TX6) (N := 11) (ci := 6) (v := .int ((bI true))) hx hb hts hin6 hown hK hP 0 (by decide) rfl rfl 9 (by decide) (hts (.fieldLink RX6 115 "MixedBlocksModel" "isWrong" "Z") (List.mem_of_getElem? (i := 2) rfl)) (fun _ h9 => h9) rfl dX6_go_190 ?_
                        refine lv_if_ne (tgt := 200) hx hb dX6_go_193 (by decide) (fun c_82 => ?_) (fun c_82 => ?_)
                        · refine lv_iconst (v := 0) hx hb dX6_go_200 (by decide) ?_
                          refine lv_istore_n (lv' := [(3, .int 0), (6, .int (nI fi)), (4, .int (nI fi)), (5, .int (nI la)), (2, .int (nI (mn + (snN el fi la (100 - mn))))), (0, .ref ((g 0))), (1, .int ((bI el)))]) hx hb dX6_go_201 rfl hl (by decide) rfl (fun ls hl => ?_)
                          refine lv_goto (tgt := 14) hx hb dX6_go_202 (by decide) ?_
                          have hgo := goM_w (nb := nb) (el := el) (k := k) (mn := mn) (y := y) hit hw3 (by omega) (by omega)
                          have hq := hres.symm.trans hgo
                          refine lv_iload_n hx hb dX6_go_14 rfl (lv_at hl 0 rfl) ?_
                          refine lv_if_eq (tgt := 205) hx hb dX6_go_15 (by decide) (fun c_83 => ?_) (fun c_83 => ?_)
                          · refine lv_iload_n hx hb dX6_go_205 rfl (lv_at hl 4 rfl) ?_
                            exact W.iret (v := (nI (mn + (snN el fi la (100 - mn))))) hx hb hr (fun t ht hW => ⟨⟨_, (), rfl, (by show _ = _; rw [hq]), (by show moZ E g th sv sm tx ln ((goM cd ln nb el (ln + 1) 0 0 (se, rc)).2.1) ((goM cd ln nb el (ln + 1) 0 0 (se, rc)).1) dg nb va ((goM cd ln nb el (ln + 1) 0 0 (se, rc)).2.2.2.1) ((goM cd ln nb el (ln + 1) 0 0 (se, rc)).2.2.2.2) (t.heap); rw [ht, hq]; exact ⟨_, _, _, hP, hrv2⟩)⟩, hS.F ht⟩) hS.2.2 dX6_go_206
                          · exact absurd rfl c_83
                        · exact absurd c_82 (by decide)
            · rw [hel] at c_65; exact absurd rfl c_65
      refine lv_iload_n hx hb dX6_go_14 rfl (lv_at hl 0 rfl) ?_
      refine lv_if_eq (tgt := 205) hx hb dX6_go_15 (by decide) (fun c_84 => ?_) (fun c_84 => ?_)
      · exact absurd c_84 (by decide)
      · refine lv_aload_n hx hb dX6_go_18 rfl (lv_at hl 2 rfl) ?_
        refine lv_iconst (v := 0) hx hb dX6_go_19 (by decide) ?_
        refine va_calli (va_runV (As := [.int 0]) (rest := []) ⟨hx, hb, hml, hown, hts⟩ (c_X6_number l E g (mdE nb va y.1 rv2) th aa2 sv sm tx ln ro2 ai2 false dg 0 cd hcs htx hln (by omega) (by omega) rfl) (cwV 1 hts gX6_go_X6_number rfl rfl rfl (by decide +kernel) ⟨Nat.le_of_ble_eq_true rfl, Nat.le_of_ble_eq_true rfl⟩) ⟨wS.blind, (w_recv hK hP 0 (by decide) rfl (ci := 6) rfl), fun U hU hW => wS.go hP hK hI hU hW⟩ rfl rfl hl.1 rfl (lv_room (Nat.le_of_ble_eq_true rfl)) dX6_go_20 ⟨Nat.zero_le _, Nat.zero_le _⟩) hS (fun q _ h => h) (fun q h => h) (fun r_85 uu t H_85 locs_85 ht hvm hw hB hz1 hk1 hS => ?_)
        rw [ht] at hB
        have hP : wP E 6 g (moF E g th (mdE nb va y.1 rv2) aa2 sv sm tx ln ro2 ((nuS cd ln 0 4 ai2 0 0).1) (nuW 0 (nuS cd ln 0 4 ai2 0 0)) dg) H_85 := hB
        have hnk_85 := nuS_ok (cd := cd) (ln := ln) (le := 0) 4 ai2 0 0 (by omega) (by decide) rfl
        obtain rfl : r_85 = (nI (nuS cd ln 0 4 ai2 0 0).2.1) := hw
        refine lv_istore (lv' := [(4, .int ((nI (nuS cd ln 0 4 ai2 0 0).2.1))), (3, .int 1), (2, .int (nI mn)), (0, .ref ((g 0))), (1, .int ((bI el)))]) hx hb dX6_go_23 hl (by decide) rfl (fun ls hl => ?_)
        refine lv_iload hx hb dX6_go_25 (lv_at hl 0 rfl) ?_
        refine lv_istore (lv' := [(5, .int ((nI (nuS cd ln 0 4 ai2 0 0).2.1))), (4, .int ((nI (nuS cd ln 0 4 ai2 0 0).2.1))), (3, .int 1), (2, .int (nI mn)), (0, .ref ((g 0))), (1, .int ((bI el)))]) hx hb dX6_go_27 hl (by decide) rfl (fun ls hl => ?_)
        refine lv_aload_n hx hb dX6_go_29 rfl (lv_at hl 4 rfl) ?_
        refine w_get (C := RX6) (T := TX6) (N := 11) (ci := 6) (v := .int ((bI (nuW 0 (nuS cd ln 0 4 ai2 0 0))))) hx hb hts hin6 hown hK hP 0 (by decide) rfl rfl 9 (by decide) (hts (.fieldLink RX6 115 "MixedBlocksModel" "isWrong" "Z") (List.mem_of_getElem? (i := 2) rfl)) (fun _ h9 => h9) rfl dX6_go_30 ?_
        refine lv_if_ne (tgt := 79) hx hb dX6_go_33 (by decide) (fun c_86 => ?_) (fun c_86 => ?_)
        · exact J79 ((nuS cd ln 0 4 ai2 0 0).1) ((nuS cd ln 0 4 ai2 0 0).2.1) ((nuS cd ln 0 4 ai2 0 0).2.1) (nuW 0 (nuS cd ln 0 4 ai2 0 0)) _ _ ls (itA_n (fun z => absurd z.1 (by rw [bI_1 c_86]; decide))) (by omega) (by omega) (by omega) (by omega) hP hS (lv_sub hl [1, 0, 3, 4, 5] rfl)
        · refine lv_aload_n hx hb dX6_go_36 rfl (lv_at hl 4 rfl) ?_
          refine w_get (C := RX6) (T := TX6) (N := 11) (ci := 6) (v := .int (nI ((nuS cd ln 0 4 ai2 0 0).1))) hx hb hts hin6 hown hK hP 0 (by decide) rfl rfl 8 (by decide) (hts (.fieldLink RX6 109 "MixedBlocksModel" "at" "I") (List.mem_of_getElem? (i := 1) rfl)) (fun _ h9 => h9) rfl dX6_go_37 ?_
          refine lv_aload_n hx hb dX6_go_40 rfl (lv_at hl 4 rfl) ?_
          refine w_get (C := RX6) (T := TX6) (N := 11) (ci := 6) (v := .int (nI ln)) hx hb hts hin6 hown hK hP 0 (by decide) rfl rfl 6 (by decide) (hts (.fieldLink RX6 106 "MixedBlocksModel" "length" "I") (List.mem_of_getElem? (i := 3) rfl)) (fun _ h9 => h9) rfl dX6_go_41 ?_
          refine lv_icmp_ge (tgt := 79) hx hb dX6_go_44 (by decide) (fun c_87 => ?_) (fun c_87 => ?_)
          · have n_87 : ln ≤ ((nuS cd ln 0 4 ai2 0 0).1) := (nI_leI (a := ln) (b := ((nuS cd ln 0 4 ai2 0 0).1)) (by omega) (by omega)).mp c_87
            exact J79 ((nuS cd ln 0 4 ai2 0 0).1) ((nuS cd ln 0 4 ai2 0 0).2.1) ((nuS cd ln 0 4 ai2 0 0).2.1) (nuW 0 (nuS cd ln 0 4 ai2 0 0)) _ _ ls (itA_n (fun z => absurd z.2.1 (by omega))) (by omega) (by omega) (by omega) (by omega) hP hS (lv_sub hl [1, 0, 3, 4, 5] rfl)
          · have n_87 : ¬ (ln ≤ ((nuS cd ln 0 4 ai2 0 0).1)) := fun z => c_87 ((nI_leI (a := ln) (b := ((nuS cd ln 0 4 ai2 0 0).1)) (by omega) (by omega)).mpr z)
            refine lv_aload_n hx hb dX6_go_47 rfl (lv_at hl 4 rfl) ?_
            refine w_get (C := RX6) (T := TX6) (N := 11) (ci := 6) (v := .ref ((g 4))) hx hb hts hin6 hown hK hP 0 (by decide) rfl rfl 5 (by decide) (hts (.fieldLink RX6 19 "MixedBlocksModel" "text" "[I") (List.mem_of_getElem? (i := 4) rfl)) (fun _ h9 => h9) rfl dX6_go_48 ?_
            refine lv_aload_n hx hb dX6_go_51 rfl (lv_at hl 4 rfl) ?_
            refine w_get (C := RX6) (T := TX6) (N := 11) (ci := 6) (v := .int (nI ((nuS cd ln 0 4 ai2 0 0).1))) hx hb hts hin6 hown hK hP 0 (by decide) rfl rfl 8 (by decide) (hts (.fieldLink RX6 109 "MixedBlocksModel" "at" "I") (List.mem_of_getElem? (i := 1) rfl)) (fun _ h9 => h9) rfl dX6_go_52 ?_
            refine w_iald hx hb hK hP 4 (by decide) rfl (vp_in_nI (by omega) (by decide)) dX6_go_55 ?_
            have hcb_88 := hcs (((nuS cd ln 0 4 ai2 0 0).1)) (by omega)
            rw [nI_clamp (by omega), htx _ (by omega)]
            refine lv_bipush (v := 45) hx hb dX6_go_56 (by decide) ?_
            refine lv_icmp_ne (tgt := 79) hx hb dX6_go_58 (by decide) (fun c_89 => ?_) (fun c_89 => ?_)
            · have n_89 : ¬ ((cd ((nuS cd ln 0 4 ai2 0 0).1)) = 45) := fun z => c_89 ((nI_eq (a := (cd ((nuS cd ln 0 4 ai2 0 0).1))) (b := 45) (by omega) (by omega)).mpr z)
              exact J79 ((nuS cd ln 0 4 ai2 0 0).1) ((nuS cd ln 0 4 ai2 0 0).2.1) ((nuS cd ln 0 4 ai2 0 0).2.1) (nuW 0 (nuS cd ln 0 4 ai2 0 0)) _ _ ls (itA_n (fun z => absurd z.2.2 (by omega))) (by omega) (by omega) (by omega) (by omega) hP hS (lv_sub hl [1, 0, 3, 4, 5] rfl)
            · have n_89 : (cd ((nuS cd ln 0 4 ai2 0 0).1)) = 45 := (nI_eq (a := (cd ((nuS cd ln 0 4 ai2 0 0).1))) (b := 45) (by omega) (by omega)).mp c_89
              refine lv_aload_n hx hb dX6_go_61 rfl (lv_at hl 4 rfl) ?_
              refine lv_dup hx hb dX6_go_62 rfl ?_
              refine w_get (C := RX6) (T := TX6) (N := 11) (ci := 6) (v := .int (nI ((nuS cd ln 0 4 ai2 0 0).1))) hx hb hts hin6 hown hK hP 0 (by decide) rfl rfl 8 (by decide) (hts (.fieldLink RX6 109 "MixedBlocksModel" "at" "I") (List.mem_of_getElem? (i := 1) rfl)) (fun _ h9 => h9) rfl dX6_go_63 ?_
              refine lv_iconst (v := 1) hx hb dX6_go_66 (by decide) ?_
              refine lv_iadd hx hb dX6_go_67 ?_
              rw [show (nI ((nuS cd ln 0 4 ai2 0 0).1)) + 1 = nI (((nuS cd ln 0 4 ai2 0 0).1) + 1) from nI_add ((nuS cd ln 0 4 ai2 0 0).1) 1]
              refine w_put (C := RX6) (T := TX6) (N := 11) (ci := 6) (v := .int (nI (((nuS cd ln 0 4 ai2 0 0).1) + 1))) (ty := .int) hx hb hts hin6 tyX6 tyX6_ok nmX6 hown hK hP hI hA hS 0 (by decide) rfl rfl 8 (by decide) (hts (.fieldLink RX6 109 "MixedBlocksModel" "at" "I") (List.mem_of_getElem? (i := 1) rfl)) (fun _ h9 => h9) rfl (by decide +kernel) rfl rfl (Nat.le_of_ble_eq_true rfl) dX6_go_68 (moF E g th (mdE nb va y.1 rv2) aa2 sv sm tx ln ro2 (((nuS cd ln 0 4 ai2 0 0).1) + 1) (nuW 0 (nuS cd ln 0 4 ai2 0 0)) dg) rfl mo_ne0 (fun H_90 locs_90 hP hS => ?_)
              refine lv_aload_n hx hb dX6_go_71 rfl (lv_at hl 4 rfl) ?_
              refine lv_iload hx hb dX6_go_72 (lv_at hl 1 rfl) ?_
              refine va_calli (va_runV (As := [.int ((nI (nuS cd ln 0 4 ai2 0 0).2.1))]) (rest := []) ⟨hx, hb, hml, hown, hts⟩ (c_X6_number l E g (mdE nb va y.1 rv2) th aa2 sv sm tx ln ro2 (((nuS cd ln 0 4 ai2 0 0).1) + 1) (nuW 0 (nuS cd ln 0 4 ai2 0 0)) dg ((nuS cd ln 0 4 ai2 0 0).2.1) cd hcs htx hln (by omega) (by omega) (bI_0 c_86)) (cwV 1 hts gX6_go_X6_number rfl rfl rfl (by decide +kernel) ⟨Nat.le_of_ble_eq_true rfl, Nat.le_of_ble_eq_true rfl⟩) ⟨wS.blind, (w_recv hK hP 0 (by decide) rfl (ci := 6) rfl), fun U hU hW => wS.go hP hK hI hU hW⟩ rfl rfl hl.1 rfl (lv_room (Nat.le_of_ble_eq_true rfl)) dX6_go_74 ⟨Nat.zero_le _, Nat.zero_le _⟩) hS (fun q _ h => h) (fun q h => h) (fun r_91 uu t H_91 locs_91 ht hvm hw hB hz1 hk1 hS => ?_)
              rw [ht] at hB
              have hP : wP E 6 g (moF E g th (mdE nb va y.1 rv2) aa2 sv sm tx ln ro2 ((nuS cd ln ((nuS cd ln 0 4 ai2 0 0).2.1) 4 (((nuS cd ln 0 4 ai2 0 0).1) + 1) 0 0).1) (nuW ((nuS cd ln 0 4 ai2 0 0).2.1) (nuS cd ln ((nuS cd ln 0 4 ai2 0 0).2.1) 4 (((nuS cd ln 0 4 ai2 0 0).1) + 1) 0 0)) dg) H_91 := hB
              have hnk_91 := nuS_ok (cd := cd) (ln := ln) (le := ((nuS cd ln 0 4 ai2 0 0).2.1)) 4 (((nuS cd ln 0 4 ai2 0 0).1) + 1) 0 0 (by omega) (by decide) rfl
              obtain rfl : r_91 = (nI (nuS cd ln ((nuS cd ln 0 4 ai2 0 0).2.1) 4 (((nuS cd ln 0 4 ai2 0 0).1) + 1) 0 0).2.1) := hw
              refine lv_istore (lv' := [(5, .int ((nI (nuS cd ln ((nuS cd ln 0 4 ai2 0 0).2.1) 4 (((nuS cd ln 0 4 ai2 0 0).1) + 1) 0 0).2.1))), (4, .int ((nI (nuS cd ln 0 4 ai2 0 0).2.1))), (3, .int 1), (2, .int (nI mn)), (0, .ref ((g 0))), (1, .int ((bI el)))]) hx hb dX6_go_77 hl (by decide) rfl (fun ls hl => ?_)
              exact J79 ((nuS cd ln ((nuS cd ln 0 4 ai2 0 0).2.1) 4 (((nuS cd ln 0 4 ai2 0 0).1) + 1) 0 0).1) ((nuS cd ln 0 4 ai2 0 0).2.1) ((nuS cd ln ((nuS cd ln 0 4 ai2 0 0).2.1) 4 (((nuS cd ln 0 4 ai2 0 0).1) + 1) 0 0).2.1) (nuW ((nuS cd ln 0 4 ai2 0 0).2.1) (nuS cd ln ((nuS cd ln 0 4 ai2 0 0).2.1) 4 (((nuS cd ln 0 4 ai2 0 0).1) + 1) 0 0)) _ _ ls (itA_y (bI_0 c_86) (by omega) (by omega)) (by omega) (by omega) (by omega) (by omega) hP hS (lv_sub hl [1, 0, 3, 4, 5] rfl)
  exact L14 (ln + 1) 0 0 (se, rc) aa ro rv _ _ ls (Nat.zero_le _) (by omega) (by decide) rfl hrv hP hS (lv_sub hl [0, 1, 2, 3] rfl)

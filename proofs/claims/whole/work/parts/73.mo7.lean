set_option maxHeartbeats 4000000 in
set_option maxRecDepth 100000 in
theorem c_X6_size_ok (l : Launch) (E : wE) (g : Nat → Nat) (th : Int32) (ln : Nat) (tx : Nat → Int32) (nb : Nat) (va : Nat → Int32) (se : Int32) (rc : Nat → MR) (ke : Nat) (hs : Nat → MS) (n2 : Nat) (h2 : 2 ≤ n2) (h12 : n2 ≤ 12) : Met l yX6_size wsX6_size ({ frames := 3, cells := 0, slots := 0, locals := 64 }) (va_Pc [.ref ((g 0)), .int (nI n2)] (wS E 6 g (MOB E g th ln tx nb va se rc ke hs))) (va_Qi (fun (r : Int32) (_ : Unit) => r = nI nb) (fun _ t => MOB E g 0 ln tx n2 (cutV va n2 12) se (mapQ fgM rc 3) (kpK ke) (pushM ke hs (nb, va, se, rc)) (t.heap)) (wF 6 g)) 0 0 (wF 6 g) := by
  refine Met.ofW (cc := cX6_size) (maxL := 4) (ret := (some .int)) (by decide) rfl ?_
  intro p e s m args below meth c s₁ B hml hv
  obtain ⟨rfl, ⟨sv, ai, wr, dg, ⟨aa, ro, rv, hP, hrv⟩, hsv, hke, hln, hnb2, hnb⟩, hK, hI⟩ := hv
  have hx := B.exec
  have hb := B.bytes
  have hr := B.returns
  have hts := atoms_spec (ws := wsX6_size) B.pre
  have hown : s.vm.findClass RX6 = some m.cls := findClass_of_methodNamed B.named
  have hlocks := B.notSynchronized
  have hS : va_S (wF 6 g) s.heap s.heap [] := va_S.rf
  have hin6 : ∀ w ∈ wsX60, w ∈ wsX6_size := by decide +kernel
  have hA : ∀ k, k < 6 → (wF 6 g) (g k) := wF_in
  have hl := lv_entry ([.ref ((g 0)), .int (nI n2)]) (n := 4) (Nat.le_of_ble_eq_true rfl)
  rw [lg_entry_eq]
  generalize (lg_sl ([.ref ((g 0)), .int (nI n2)]) ++ List.replicate (4 - (lg_sl ([.ref ((g 0)), .int (nI n2)])).length) Slot.unset).toArray = ls at hl ⊢
  have hl : lv_has ls 4 [(0, .ref ((g 0))), (1, .int (nI n2))] := hl
  have hbN := hnb
  have hB1 : inB (nI n2) 2 12 = true := inB_t (n := n2) (a := 2) (b := 12) rfl rfl rfl (by omega) (by omega) (by omega)
  refine lv_aload_n hx hb dX6_size_0 rfl (lv_at hl 0 rfl) ?_
  refine lv_iload_n hx hb dX6_size_1 rfl (lv_at hl 1 rfl) ?_
  refine lv_iconst (v := 2) hx hb dX6_size_2 (by decide) ?_
  refine lv_bipush (v := 12) hx hb dX6_size_3 (by decide) ?_
  refine va_calli (va_runS (As := [.int (nI n2), .int 2, .int 12]) (rest := [.ref ((g 0))]) ⟨hx, hb, hml, hown, hts⟩ (c_X6_in l (nI n2) 2 12) (va_cwS 3 hts gX6_size_X6_in rfl rfl rfl (by decide +kernel) ⟨Nat.le_of_ble_eq_true rfl, Nat.le_of_ble_eq_true rfl⟩) ⟨wU_blind, fun U hU hW => ⟨rfl, trivial⟩⟩ rfl rfl hl.1 rfl (lv_room (Nat.le_of_ble_eq_true rfl)) dX6_size_5 ⟨Nat.zero_le _, Nat.zero_le _⟩) hS (fun q _ h => h.elim) (fun q h => h.elim) (fun r_1 uu t H_1 locs_1 ht hvm hw hB hz1 hk1 hS => ?_)
  have hP := hP.same hk1
  obtain rfl : r_1 = (bI (inB (nI n2) 2 12)) := hw
  refine lv_if_eq (tgt := 15) hx hb dX6_size_8 (by decide) (fun c_2 => ?_) (fun c_2 => ?_)
  · rw [hB1] at c_2; exact absurd c_2 (by decide)
  · refine lv_iconst (v := 0) hx hb dX6_size_11 (by decide) ?_
    refine lv_goto (tgt := 16) hx hb dX6_size_12 (by decide) ?_
    refine va_calli (va_runV (As := [.int 0]) (rest := []) ⟨hx, hb, hml, hown, hts⟩ (c_X6_holds l E g (mdE nb va se rv) th aa sv ke tx ln ro ai wr dg 0) (cwV 1 hts gX6_size_X6_holds rfl rfl rfl (by decide +kernel) ⟨Nat.le_of_ble_eq_true rfl, Nat.le_of_ble_eq_true rfl⟩) ⟨wS.blind, (w_recv hK hP 0 (by decide) rfl (ci := 6) rfl), fun U hU hW => wS.go hP hK hI hU hW⟩ rfl rfl hl.1 rfl (lv_room (Nat.le_of_ble_eq_true rfl)) dX6_size_16 ⟨Nat.zero_le _, Nat.zero_le _⟩) hS (fun q _ h => h) (fun q h => h) (fun r_3 uu t H_3 locs_3 ht hvm hw hB hz1 hk1 hS => ?_)
    rw [ht] at hB
    have hP : wP E 6 g (moF E g 0 (mdE nb va se rv) aa sv ke tx ln ro ai wr dg) H_3 := hB
    obtain rfl : r_3 = 1 := hw
    refine lv_if_ne (tgt := 24) hx hb dX6_size_19 (by decide) (fun c_4 => ?_) (fun c_4 => ?_)
    · refine lv_aload_n hx hb dX6_size_24 rfl (lv_at hl 0 rfl) ?_
      refine va_callv (va_runV (As := []) (rest := []) ⟨hx, hb, hml, hown, hts⟩ (c_X6_save l E g (mdE nb va se rv) 0 aa sv ke tx ln ro ai wr dg hke) (cwV 0 hts gX6_size_X6_save rfl rfl rfl (by decide +kernel) ⟨Nat.le_of_ble_eq_true rfl, Nat.le_of_ble_eq_true rfl⟩) ⟨wS.blind, (w_recv hK hP 0 (by decide) rfl (ci := 6) rfl), fun U hU hW => wS.go hP hK hI hU hW⟩ rfl rfl hl.1 rfl (lv_room (Nat.le_of_ble_eq_true rfl)) dX6_size_25 ⟨Nat.zero_le _, Nat.zero_le _⟩) hS (fun q _ h => h) (fun q h => h) (fun uu t H_5 locs_5 ht hvm hw hB hz1 hk1 hS => ?_)
      rw [ht] at hB
      obtain ⟨sv_5, hP, hs1_5, hs2_5⟩ := hB
      rw [kpK_eq hke] at hP
      have hP : wP E 6 g (moF E g 0 (mdE nb va se rv) aa sv_5 (kpK ke) tx ln ro ai wr dg) H_5 := hP
      have hsv_5 : svP (pushM ke hs (nb, va, se, rc)) (kpK ke) sv_5 := svP_push hke hsv ⟨rv, fun _ _ => rfl, hrv, hnb2, hnb⟩ hs1_5 hs2_5
      refine lv_aload_n hx hb dX6_size_28 rfl (lv_at hl 0 rfl) ?_
      refine w_get (C := RX6) (T := TX6) (N := 11) (ci := 6) (v := .ref ((g 1))) hx hb hts hin6 hown hK hP 0 (by decide) rfl rfl 1 (by decide) (hts (.fieldLink RX6 7 "MixedBlocksModel" "s" "[I") (List.mem_of_getElem? (i := 1) rfl)) (fun _ h9 => h9) rfl dX6_size_29 ?_
      refine lv_iconst (v := 0) hx hb dX6_size_32 (by decide) ?_
      refine w_iald hx hb hK hP 1 (by decide) rfl (vp_in_nI (n := 0) (by decide) (by decide)) dX6_size_33 ?_
      rw [mdE_0]
      refine lv_istore_n (lv' := [(2, .int (nI nb)), (0, .ref ((g 0))), (1, .int (nI n2))]) hx hb dX6_size_34 rfl hl (by decide) rfl (fun ls hl => ?_)
      refine lv_iload_n hx hb dX6_size_35 rfl (lv_at hl 2 rfl) ?_
      refine lv_istore_n (lv' := [(3, .int (nI n2)), (2, .int (nI nb)), (0, .ref ((g 0))), (1, .int (nI n2))]) hx hb dX6_size_36 rfl hl (by decide) rfl (fun ls hl => ?_)
      rw [← cutV_at va n2] at hP
      have hcut : cutV va n2 n2 = va := cutV_at va n2
      have L37 : ∀ (k : Nat) (i : Nat) (H : Heap) (locs : List Loc) (ls : Array Slot), i + k = 12 → n2 ≤ i → wP E 6 g (moF E g 0 (mdE nb (cutV va n2 i) se rv) aa sv_5 (kpK ke) tx ln ro ai wr dg) H → va_S (wF 6 g) s.heap H locs → lv_has ls 4 [(3, .int (nI i)), (2, .int (nI nb)), (0, .ref ((g 0))), (1, .int (nI n2))] → W p l e (headSpec wsX6_size ({ frames := 3, cells := 0, slots := 0, locals := 64 })).room s m ([.ref ((g 0)), .int (nI n2)] : List Value).toArray below meth c H locs 0 0 (MQ below (va_Qi (fun (r : Int32) (_ : Unit) => r = nI nb) (fun _ t => MOB E g 0 ln tx n2 (cutV va n2 12) se (mapQ fgM rc 3) (kpK ke) (pushM ke hs (nb, va, se, rc)) (t.heap)) (wF 6 g)) ([.ref ((g 0)), .int (nI n2)] : List Value).toArray s 0 0 (wF 6 g)) (F0 m 37 ls []) := by
        intro k
        induction k with
        | zero =>
          intro i H locs ls hi hin hP hS hl
          refine lv_iload_n hx hb dX6_size_37 rfl (lv_at hl 0 rfl) ?_
          refine lv_bipush (v := 12) hx hb dX6_size_38 (by decide) ?_
          refine lv_icmp_ge (tgt := 58) hx hb dX6_size_40 (by decide) (fun c_6 => ?_) (fun c_6 => ?_)
          · have n_6 : 12 ≤ i := (nI_leI (a := 12) (b := i) (by omega) (by omega)).mp c_6
            rw [show i = 12 by omega] at hP
            refine lv_aload_n hx hb dX6_size_58 rfl (lv_at hl 2 rfl) ?_
            refine w_get (C := RX6) (T := TX6) (N := 11) (ci := 6) (v := .ref ((g 1))) hx hb hts hin6 hown hK hP 0 (by decide) rfl rfl 1 (by decide) (hts (.fieldLink RX6 7 "MixedBlocksModel" "s" "[I") (List.mem_of_getElem? (i := 1) rfl)) (fun _ h9 => h9) rfl dX6_size_59 ?_
            refine lv_iconst (v := 0) hx hb dX6_size_62 (by decide) ?_
            refine lv_iload_n hx hb dX6_size_63 rfl (lv_at hl 3 rfl) ?_
            refine w_iast hx hb hK hP hI hA hS 1 (by decide) rfl (vp_in_nI (n := 0) (by decide) (by decide)) dX6_size_64 (moF E g 0 (upd (mdE nb (cutV va n2 12) se rv) (0 : Int32).toNatClampNeg (nI n2)) aa sv_5 (kpK ke) tx ln ro ai wr dg) rfl mo_ne1 (fun H_7 locs_7 hP hS => ?_)
            rw [show (upd (mdE nb (cutV va n2 12) se rv) (0 : Int32).toNatClampNeg (nI n2)) = (mdE n2 (cutV va n2 12) se rv) from mdE_u0 (nb' := n2)] at hP
            refine lv_aload_n hx hb dX6_size_65 rfl (lv_at hl 2 rfl) ?_
            refine va_callv (va_runV (As := []) (rest := []) ⟨hx, hb, hml, hown, hts⟩ (c_X6_allForget l E g 0 sv_5 (kpK ke) tx ln ai wr dg n2 (cutV va n2 12) se rc ) (cwV 0 hts gX6_size_X6_allForget rfl rfl rfl (by decide +kernel) ⟨Nat.le_of_ble_eq_true rfl, Nat.le_of_ble_eq_true rfl⟩) ⟨wS.blind, (w_recv hK hP 0 (by decide) rfl (ci := 6) rfl), fun U hU hW => wS.go ⟨_, _, _, hP, hrv⟩ hK hI hU hW⟩ rfl rfl hl.1 rfl (lv_room (Nat.le_of_ble_eq_true rfl)) dX6_size_66 ⟨Nat.zero_le _, Nat.zero_le _⟩) hS (fun q _ h => h) (fun q h => h) (fun uu t H_8 locs_8 ht hvm hw hB hz1 hk1 hS => ?_)
            rw [ht] at hB
            obtain ⟨aa_8, ro_8, rv_8, hP, hrv_8⟩ := hB
            have hP : wP E 6 g (moF E g 0 (mdE n2 (cutV va n2 12) se rv_8) aa_8 sv_5 (kpK ke) tx ln ro_8 ai wr dg) H_8 := hP
            refine lv_iload_n hx hb dX6_size_69 rfl (lv_at hl 1 rfl) ?_
            exact W.iret (v := (nI nb)) hx hb hr (fun t ht hW => ⟨⟨_, (), rfl, rfl, (by show MOB E g 0 ln tx n2 (cutV va n2 12) se (mapQ fgM rc 3) (kpK ke) (pushM ke hs (nb, va, se, rc)) (t.heap); rw [ht]; exact ⟨sv_5, _, _, _, ⟨_, _, _, hP, hrv_8⟩, hsv_5, (kpK_le hke), hln, h2, h12⟩)⟩, hS.F ht⟩) hS.2.2 dX6_size_70
          · have n_6 : ¬ (12 ≤ i) := fun z => c_6 ((nI_leI (a := 12) (b := i) (by omega) (by omega)).mpr z)
            exfalso
            omega
        | succ k ihk =>
          intro i H locs ls hi hin hP hS hl
          refine lv_iload_n hx hb dX6_size_37 rfl (lv_at hl 0 rfl) ?_
          refine lv_bipush (v := 12) hx hb dX6_size_38 (by decide) ?_
          refine lv_icmp_ge (tgt := 58) hx hb dX6_size_40 (by decide) (fun c_9 => ?_) (fun c_9 => ?_)
          · have n_9 : 12 ≤ i := (nI_leI (a := 12) (b := i) (by omega) (by omega)).mp c_9
            exfalso
            omega
          · have n_9 : ¬ (12 ≤ i) := fun z => c_9 ((nI_leI (a := 12) (b := i) (by omega) (by omega)).mpr z)
            refine lv_aload_n hx hb dX6_size_43 rfl (lv_at hl 2 rfl) ?_
            refine w_get (C := RX6) (T := TX6) (N := 11) (ci := 6) (v := .ref ((g 1))) hx hb hts hin6 hown hK hP 0 (by decide) rfl rfl 1 (by decide) (hts (.fieldLink RX6 7 "MixedBlocksModel" "s" "[I") (List.mem_of_getElem? (i := 1) rfl)) (fun _ h9 => h9) rfl dX6_size_44 ?_
            refine lv_iconst (v := 2) hx hb dX6_size_47 (by decide) ?_
            refine lv_iload_n hx hb dX6_size_48 rfl (lv_at hl 0 rfl) ?_
            refine lv_iadd hx hb dX6_size_49 ?_
            rw [show 2 + (nI i) = nI (2 + i) from nI_add 2 i]
            refine lv_iconst (v := 0) hx hb dX6_size_50 (by decide) ?_
            refine w_iast hx hb hK hP hI hA hS 1 (by decide) rfl (vp_in_nI (by omega) (by decide)) dX6_size_51 (moF E g 0 (upd (mdE nb (cutV va n2 i) se rv) (2 + i) 0) aa sv_5 (kpK ke) tx ln ro ai wr dg) (congrArg (fun z : Nat => (Sum.inl (E.2.1, 104, Sum.inl (upd (mdE nb (cutV va n2 i) se rv) z 0)) : va_E)) (nI_clamp (by omega)).symm) mo_ne1 (fun H_10 locs_10 hP hS => ?_)
            rw [show (upd (mdE nb (cutV va n2 i) se rv) (2 + i) 0) = (mdE nb (upd (cutV va n2 i) i 0) se rv) from mdE_uv (b := i) (by omega)] at hP
            refine lv_iinc (v := (nI (i + 1))) (lv' := [(3, .int (nI (i + 1))), (2, .int (nI nb)), (0, .ref ((g 0))), (1, .int (nI n2))]) hx hb dX6_size_52 hl (k := 0) rfl (nI_1 _) (by decide) rfl (fun ls hl => ?_)
            refine lv_goto (tgt := 37) hx hb dX6_size_55 (by decide) ?_
            rw [cutV_y (by omega)] at hP
            exact ihk (i + 1) _ _ ls (by omega) (by omega) hP hS (lv_sub hl [0, 1, 2, 3] rfl)
      exact L37 (12 - n2) n2 _ _ ls (by omega) (Nat.le_refl n2) hP hS (lv_sub hl [0, 1, 2, 3] rfl)
    · exact absurd c_4 (by decide)
set_option maxHeartbeats 4000000 in
set_option maxRecDepth 100000 in
theorem c_X6_size_no (l : Launch) (E : wE) (g : Nat → Nat) (th : Int32) (ln : Nat) (tx : Nat → Int32) (nb : Nat) (va : Nat → Int32) (se : Int32) (rc : Nat → MR) (ke : Nat) (hs : Nat → MS) (x : Int32) (hB1 : inB x 2 12 = false) : Met l yX6_size wsX6_size ({ frames := 3, cells := 0, slots := 0, locals := 64 }) (va_Pc [.ref ((g 0)), .int x] (wS E 6 g (MOB E g th ln tx nb va se rc ke hs))) (va_Qi (fun (r : Int32) (_ : Unit) => r = 0) (fun _ t => MOB E g 1 ln tx nb va se rc ke hs (t.heap)) (wF 6 g)) 0 0 (wF 6 g) := by
  refine Met.ofW (cc := cX6_size) (maxL := 4) (ret := (some .int)) (by decide) rfl ?_
  intro p e s m args below meth c s₁ B hml hv
  obtain ⟨rfl, ⟨sv, ai, wr, dg, ⟨aa, ro, rv, hP, hrv⟩, hsv, hke, hln, hnb2, hnb⟩, hK, hI⟩ := hv
  have hx := B.exec
  have hb := B.bytes
  have hr := B.returns
  have hts := atoms_spec (ws := wsX6_size) B.pre
  have hown : s.vm.findClass RX6 = some m.cls := findClass_of_methodNamed B.named
  have hlocks := B.notSynchronized
  have hS : va_S (wF 6 g) s.heap s.heap [] := va_S.rf
  have hA : ∀ k, k < 6 → (wF 6 g) (g k) := wF_in
  have hl := lv_entry ([.ref ((g 0)), .int x]) (n := 4) (Nat.le_of_ble_eq_true rfl)
  rw [lg_entry_eq]
  generalize (lg_sl ([.ref ((g 0)), .int x]) ++ List.replicate (4 - (lg_sl ([.ref ((g 0)), .int x])).length) Slot.unset).toArray = ls at hl ⊢
  have hl : lv_has ls 4 [(0, .ref ((g 0))), (1, .int x)] := hl
  have hbN := hnb
  refine lv_aload_n hx hb dX6_size_0 rfl (lv_at hl 0 rfl) ?_
  refine lv_iload_n hx hb dX6_size_1 rfl (lv_at hl 1 rfl) ?_
  refine lv_iconst (v := 2) hx hb dX6_size_2 (by decide) ?_
  refine lv_bipush (v := 12) hx hb dX6_size_3 (by decide) ?_
  refine va_calli (va_runS (As := [.int x, .int 2, .int 12]) (rest := [.ref ((g 0))]) ⟨hx, hb, hml, hown, hts⟩ (c_X6_in l x 2 12) (va_cwS 3 hts gX6_size_X6_in rfl rfl rfl (by decide +kernel) ⟨Nat.le_of_ble_eq_true rfl, Nat.le_of_ble_eq_true rfl⟩) ⟨wU_blind, fun U hU hW => ⟨rfl, trivial⟩⟩ rfl rfl hl.1 rfl (lv_room (Nat.le_of_ble_eq_true rfl)) dX6_size_5 ⟨Nat.zero_le _, Nat.zero_le _⟩) hS (fun q _ h => h.elim) (fun q h => h.elim) (fun r_1 uu t H_1 locs_1 ht hvm hw hB hz1 hk1 hS => ?_)
  have hP := hP.same hk1
  obtain rfl : r_1 = (bI (inB x 2 12)) := hw
  refine lv_if_eq (tgt := 15) hx hb dX6_size_8 (by decide) (fun c_2 => ?_) (fun c_2 => ?_)
  · refine lv_iconst (v := 1) hx hb dX6_size_15 (by decide) ?_
    refine va_calli (va_runV (As := [.int 1]) (rest := []) ⟨hx, hb, hml, hown, hts⟩ (c_X6_holds l E g (mdE nb va se rv) th aa sv ke tx ln ro ai wr dg 1) (cwV 1 hts gX6_size_X6_holds rfl rfl rfl (by decide +kernel) ⟨Nat.le_of_ble_eq_true rfl, Nat.le_of_ble_eq_true rfl⟩) ⟨wS.blind, (w_recv hK hP 0 (by decide) rfl (ci := 6) rfl), fun U hU hW => wS.go hP hK hI hU hW⟩ rfl rfl hl.1 rfl (lv_room (Nat.le_of_ble_eq_true rfl)) dX6_size_16 ⟨Nat.zero_le _, Nat.zero_le _⟩) hS (fun q _ h => h) (fun q h => h) (fun r_3 uu t H_3 locs_3 ht hvm hw hB hz1 hk1 hS => ?_)
    rw [ht] at hB
    have hP : wP E 6 g (moF E g 1 (mdE nb va se rv) aa sv ke tx ln ro ai wr dg) H_3 := hB
    obtain rfl : r_3 = 0 := hw
    refine lv_if_ne (tgt := 24) hx hb dX6_size_19 (by decide) (fun c_4 => ?_) (fun c_4 => ?_)
    · exact absurd rfl c_4
    · refine lv_iconst (v := 0) hx hb dX6_size_22 (by decide) ?_
      exact W.iret (v := 0) hx hb hr (fun t ht hW => ⟨⟨_, (), rfl, rfl, (by show MOB E g 1 ln tx nb va se rc ke hs (t.heap); rw [ht]; exact ⟨sv, _, _, _, ⟨_, _, _, hP, hrv⟩, hsv, hke, hln, hnb2, hnb⟩)⟩, hS.F ht⟩) hS.2.2 dX6_size_23
  · rw [hB1] at c_2; exact absurd rfl c_2
set_option maxHeartbeats 4000000 in
set_option maxRecDepth 100000 in
theorem c_X6_write_ok (l : Launch) (E : wE) (g : Nat → Nat) (th : Int32) (ln : Nat) (tx : Nat → Int32) (nb : Nat) (va : Nat → Int32) (se : Int32) (rc : Nat → MR) (ke : Nat) (hs : Nat → MS) (b : Nat) (hb9 : b < nb) (v : Int32) (hv9 : inB v 0 65535 = true) : Met l yX6_write wsX6_write ({ frames := 3, cells := 0, slots := 0, locals := 64 }) (va_Pc [.ref ((g 0)), .int (nI b), .int v] (wS E 6 g (MOB E g th ln tx nb va se rc ke hs))) (va_Qi (fun (r : Int32) (_ : Unit) => r = va b) (fun _ t => MOB E g 0 ln tx nb (upd va b v) se (mapQ fgM rc 3) (kpK ke) (pushM ke hs (nb, va, se, rc)) (t.heap)) (wF 6 g)) 0 0 (wF 6 g) := by
  refine Met.ofW (cc := cX6_write) (maxL := 4) (ret := (some .int)) (by decide) rfl ?_
  intro p e s m args below meth c s₁ B hml hv
  obtain ⟨rfl, ⟨sv, ai, wr, dg, ⟨aa, ro, rv, hP, hrv⟩, hsv, hke, hln, hnb2, hnb⟩, hK, hI⟩ := hv
  have hx := B.exec
  have hb := B.bytes
  have hr := B.returns
  have hts := atoms_spec (ws := wsX6_write) B.pre
  have hown : s.vm.findClass RX6 = some m.cls := findClass_of_methodNamed B.named
  have hlocks := B.notSynchronized
  have hS : va_S (wF 6 g) s.heap s.heap [] := va_S.rf
  have hin6 : ∀ w ∈ wsX60, w ∈ wsX6_write := by decide +kernel
  have hA : ∀ k, k < 6 → (wF 6 g) (g k) := wF_in
  have hl := lv_entry ([.ref ((g 0)), .int (nI b), .int v]) (n := 4) (Nat.le_of_ble_eq_true rfl)
  rw [lg_entry_eq]
  generalize (lg_sl ([.ref ((g 0)), .int (nI b), .int v]) ++ List.replicate (4 - (lg_sl ([.ref ((g 0)), .int (nI b), .int v])).length) Slot.unset).toArray = ls at hl ⊢
  have hl : lv_has ls 4 [(0, .ref ((g 0))), (1, .int (nI b)), (2, .int v)] := hl
  have hbN := hnb
  have hB1 : inB (nI b) 0 (nI (nb - 1)) = true := inB_t (n := b) (a := 0) (b := (nb - 1)) rfl rfl rfl (by omega) (by omega) (by omega)
  have hB2 : inB v 0 65535 = true := hv9
  refine lv_aload_n hx hb dX6_write_0 rfl (lv_at hl 0 rfl) ?_
  refine lv_aload_n hx hb dX6_write_1 rfl (lv_at hl 0 rfl) ?_
  refine lv_iload_n hx hb dX6_write_2 rfl (lv_at hl 1 rfl) ?_
  refine va_calli (va_runV (As := [.int (nI b)]) (rest := [.ref ((g 0))]) ⟨hx, hb, hml, hown, hts⟩ (c_X6_isBlock l E g th aa sv ke tx ln ro ai wr dg nb va se rv (nI b) hnb2 hnb) (cwV 1 hts gX6_write_X6_isBlock rfl rfl rfl (by decide +kernel) ⟨Nat.le_of_ble_eq_true rfl, Nat.le_of_ble_eq_true rfl⟩) ⟨wS.blind, (w_recv hK hP 0 (by decide) rfl (ci := 6) rfl), fun U hU hW => wS.go hP hK hI hU hW⟩ rfl rfl hl.1 rfl (lv_room (Nat.le_of_ble_eq_true rfl)) dX6_write_3 ⟨Nat.zero_le _, Nat.zero_le _⟩) hS (fun q _ h => h.elim) (fun q h => h.elim) (fun r_1 uu t H_1 locs_1 ht hvm hw hB hz1 hk1 hS => ?_)
  have hP := hP.same hk1
  obtain rfl : r_1 = (bI (inB (nI b) 0 (nI (nb - 1)))) := hw
  refine lv_if_ne (tgt := 13) hx hb dX6_write_6 (by decide) (fun c_2 => ?_) (fun c_2 => ?_)
  · refine lv_iload_n hx hb dX6_write_13 rfl (lv_at hl 2 rfl) ?_
    refine lv_iconst (v := 0) hx hb dX6_write_14 (by decide) ?_
    refine lv_ldc hx hb hown (hts (.constant RX6 87 (65535)) (List.mem_of_getElem? (i := 1) rfl)) dX6_write_15 ?_
    refine va_calli (va_runS (As := [.int v, .int 0, .int 65535]) (rest := [.ref ((g 0))]) ⟨hx, hb, hml, hown, hts⟩ (c_X6_in l v 0 65535) (va_cwS 3 hts gX6_write_X6_in rfl rfl rfl (by decide +kernel) ⟨Nat.le_of_ble_eq_true rfl, Nat.le_of_ble_eq_true rfl⟩) ⟨wU_blind, fun U hU hW => ⟨rfl, trivial⟩⟩ rfl rfl hl.1 rfl (lv_room (Nat.le_of_ble_eq_true rfl)) dX6_write_17 ⟨Nat.zero_le _, Nat.zero_le _⟩) hS (fun q _ h => h.elim) (fun q h => h.elim) (fun r_3 uu t H_3 locs_3 ht hvm hw hB hz1 hk1 hS => ?_)
    have hP := hP.same hk1
    obtain rfl : r_3 = (bI (inB v 0 65535)) := hw
    refine lv_if_ne (tgt := 27) hx hb dX6_write_20 (by decide) (fun c_4 => ?_) (fun c_4 => ?_)
    · refine lv_iconst (v := 0) hx hb dX6_write_27 (by decide) ?_
      refine va_calli (va_runV (As := [.int 0]) (rest := []) ⟨hx, hb, hml, hown, hts⟩ (c_X6_holds l E g (mdE nb va se rv) th aa sv ke tx ln ro ai wr dg 0) (cwV 1 hts gX6_write_X6_holds rfl rfl rfl (by decide +kernel) ⟨Nat.le_of_ble_eq_true rfl, Nat.le_of_ble_eq_true rfl⟩) ⟨wS.blind, (w_recv hK hP 0 (by decide) rfl (ci := 6) rfl), fun U hU hW => wS.go hP hK hI hU hW⟩ rfl rfl hl.1 rfl (lv_room (Nat.le_of_ble_eq_true rfl)) dX6_write_28 ⟨Nat.zero_le _, Nat.zero_le _⟩) hS (fun q _ h => h) (fun q h => h) (fun r_5 uu t H_5 locs_5 ht hvm hw hB hz1 hk1 hS => ?_)
      rw [ht] at hB
      have hP : wP E 6 g (moF E g 0 (mdE nb va se rv) aa sv ke tx ln ro ai wr dg) H_5 := hB
      obtain rfl : r_5 = 1 := hw
      refine lv_if_ne (tgt := 36) hx hb dX6_write_31 (by decide) (fun c_6 => ?_) (fun c_6 => ?_)
      · refine lv_aload_n hx hb dX6_write_36 rfl (lv_at hl 0 rfl) ?_
        refine va_callv (va_runV (As := []) (rest := []) ⟨hx, hb, hml, hown, hts⟩ (c_X6_save l E g (mdE nb va se rv) 0 aa sv ke tx ln ro ai wr dg hke) (cwV 0 hts gX6_write_X6_save rfl rfl rfl (by decide +kernel) ⟨Nat.le_of_ble_eq_true rfl, Nat.le_of_ble_eq_true rfl⟩) ⟨wS.blind, (w_recv hK hP 0 (by decide) rfl (ci := 6) rfl), fun U hU hW => wS.go hP hK hI hU hW⟩ rfl rfl hl.1 rfl (lv_room (Nat.le_of_ble_eq_true rfl)) dX6_write_37 ⟨Nat.zero_le _, Nat.zero_le _⟩) hS (fun q _ h => h) (fun q h => h) (fun uu t H_7 locs_7 ht hvm hw hB hz1 hk1 hS => ?_)
        rw [ht] at hB
        obtain ⟨sv_7, hP, hs1_7, hs2_7⟩ := hB
        rw [kpK_eq hke] at hP
        have hP : wP E 6 g (moF E g 0 (mdE nb va se rv) aa sv_7 (kpK ke) tx ln ro ai wr dg) H_7 := hP
        have hsv_7 : svP (pushM ke hs (nb, va, se, rc)) (kpK ke) sv_7 := svP_push hke hsv ⟨rv, fun _ _ => rfl, hrv, hnb2, hnb⟩ hs1_7 hs2_7
        refine lv_aload_n hx hb dX6_write_40 rfl (lv_at hl 0 rfl) ?_
        refine w_get (C := RX6) (T := TX6) (N := 11) (ci := 6) (v := .ref ((g 1))) hx hb hts hin6 hown hK hP 0 (by decide) rfl rfl 1 (by decide) (hts (.fieldLink RX6 7 "MixedBlocksModel" "s" "[I") (List.mem_of_getElem? (i := 2) rfl)) (fun _ h9 => h9) rfl dX6_write_41 ?_
        refine lv_iconst (v := 2) hx hb dX6_write_44 (by decide) ?_
        refine lv_iload_n hx hb dX6_write_45 rfl (lv_at hl 1 rfl) ?_
        refine lv_iadd hx hb dX6_write_46 ?_
        rw [show 2 + (nI b) = nI (2 + b) from nI_add 2 b]
        refine w_iald hx hb hK hP 1 (by decide) rfl (vp_in_nI (by omega) (by decide)) dX6_write_47 ?_
        rw [nI_clamp (by omega), mdE_v (by omega)]
        refine lv_istore_n (lv' := [(3, .int ((va b))), (0, .ref ((g 0))), (1, .int (nI b)), (2, .int v)]) hx hb dX6_write_48 rfl hl (by decide) rfl (fun ls hl => ?_)
        refine lv_aload_n hx hb dX6_write_49 rfl (lv_at hl 1 rfl) ?_
        refine w_get (C := RX6) (T := TX6) (N := 11) (ci := 6) (v := .ref ((g 1))) hx hb hts hin6 hown hK hP 0 (by decide) rfl rfl 1 (by decide) (hts (.fieldLink RX6 7 "MixedBlocksModel" "s" "[I") (List.mem_of_getElem? (i := 2) rfl)) (fun _ h9 => h9) rfl dX6_write_50 ?_
        refine lv_iconst (v := 2) hx hb dX6_write_53 (by decide) ?_
        refine lv_iload_n hx hb dX6_write_54 rfl (lv_at hl 2 rfl) ?_
        refine lv_iadd hx hb dX6_write_55 ?_
        rw [show 2 + (nI b) = nI (2 + b) from nI_add 2 b]
        refine lv_iload_n hx hb dX6_write_56 rfl (lv_at hl 3 rfl) ?_
        refine w_iast hx hb hK hP hI hA hS 1 (by decide) rfl (vp_in_nI (by omega) (by decide)) dX6_write_57 (moF E g 0 (upd (mdE nb va se rv) (2 + b) v) aa sv_7 (kpK ke) tx ln ro ai wr dg) (congrArg (fun z : Nat => (Sum.inl (E.2.1, 104, Sum.inl (upd (mdE nb va se rv) z v)) : va_E)) (nI_clamp (by omega)).symm) mo_ne1 (fun H_8 locs_8 hP hS => ?_)
        rw [show (upd (mdE nb va se rv) (2 + b) v) = (mdE nb (upd va b v) se rv) from mdE_uv (b := b) (by omega)] at hP
        refine lv_aload_n hx hb dX6_write_58 rfl (lv_at hl 1 rfl) ?_
        refine va_callv (va_runV (As := []) (rest := []) ⟨hx, hb, hml, hown, hts⟩ (c_X6_allForget l E g 0 sv_7 (kpK ke) tx ln ai wr dg nb (upd va b v) se rc ) (cwV 0 hts gX6_write_X6_allForget rfl rfl rfl (by decide +kernel) ⟨Nat.le_of_ble_eq_true rfl, Nat.le_of_ble_eq_true rfl⟩) ⟨wS.blind, (w_recv hK hP 0 (by decide) rfl (ci := 6) rfl), fun U hU hW => wS.go ⟨_, _, _, hP, hrv⟩ hK hI hU hW⟩ rfl rfl hl.1 rfl (lv_room (Nat.le_of_ble_eq_true rfl)) dX6_write_59 ⟨Nat.zero_le _, Nat.zero_le _⟩) hS (fun q _ h => h) (fun q h => h) (fun uu t H_9 locs_9 ht hvm hw hB hz1 hk1 hS => ?_)
        rw [ht] at hB
        obtain ⟨aa_9, ro_9, rv_9, hP, hrv_9⟩ := hB
        have hP : wP E 6 g (moF E g 0 (mdE nb (upd va b v) se rv_9) aa_9 sv_7 (kpK ke) tx ln ro_9 ai wr dg) H_9 := hP
        refine lv_iload_n hx hb dX6_write_62 rfl (lv_at hl 0 rfl) ?_
        exact W.iret (v := (va b)) hx hb hr (fun t ht hW => ⟨⟨_, (), rfl, rfl, (by show MOB E g 0 ln tx nb (upd va b v) se (mapQ fgM rc 3) (kpK ke) (pushM ke hs (nb, va, se, rc)) (t.heap); rw [ht]; exact ⟨sv_7, _, _, _, ⟨_, _, _, hP, hrv_9⟩, hsv_7, (kpK_le hke), hln, hnb2, hnb⟩)⟩, hS.F ht⟩) hS.2.2 dX6_write_63
      · exact absurd c_6 (by decide)
    · rw [hB2] at c_4; exact absurd c_4 (by decide)
  · rw [hB1] at c_2; exact absurd c_2 (by decide)
set_option maxHeartbeats 4000000 in
set_option maxRecDepth 100000 in
theorem c_X6_write_no1 (l : Launch) (E : wE) (g : Nat → Nat) (th : Int32) (ln : Nat) (tx : Nat → Int32) (nb : Nat) (va : Nat → Int32) (se : Int32) (rc : Nat → MR) (ke : Nat) (hs : Nat → MS) (x y : Int32) (hB1 : inB x 0 (nI (nb - 1)) = false) : Met l yX6_write wsX6_write ({ frames := 3, cells := 0, slots := 0, locals := 64 }) (va_Pc [.ref ((g 0)), .int x, .int y] (wS E 6 g (MOB E g th ln tx nb va se rc ke hs))) (va_Qi (fun (r : Int32) (_ : Unit) => r = 0) (fun _ t => MOB E g 1 ln tx nb va se rc ke hs (t.heap)) (wF 6 g)) 0 0 (wF 6 g) := by
  refine Met.ofW (cc := cX6_write) (maxL := 4) (ret := (some .int)) (by decide) rfl ?_
  intro p e s m args below meth c s₁ B hml hv
  obtain ⟨rfl, ⟨sv, ai, wr, dg, ⟨aa, ro, rv, hP, hrv⟩, hsv, hke, hln, hnb2, hnb⟩, hK, hI⟩ := hv
  have hx := B.exec
  have hb := B.bytes
  have hr := B.returns
  have hts := atoms_spec (ws := wsX6_write) B.pre
  have hown : s.vm.findClass RX6 = some m.cls := findClass_of_methodNamed B.named
  have hlocks := B.notSynchronized
  have hS : va_S (wF 6 g) s.heap s.heap [] := va_S.rf
  have hA : ∀ k, k < 6 → (wF 6 g) (g k) := wF_in
  have hl := lv_entry ([.ref ((g 0)), .int x, .int y]) (n := 4) (Nat.le_of_ble_eq_true rfl)
  rw [lg_entry_eq]
  generalize (lg_sl ([.ref ((g 0)), .int x, .int y]) ++ List.replicate (4 - (lg_sl ([.ref ((g 0)), .int x, .int y])).length) Slot.unset).toArray = ls at hl ⊢
  have hl : lv_has ls 4 [(0, .ref ((g 0))), (1, .int x), (2, .int y)] := hl
  have hbN := hnb
  refine lv_aload_n hx hb dX6_write_0 rfl (lv_at hl 0 rfl) ?_
  refine lv_aload_n hx hb dX6_write_1 rfl (lv_at hl 0 rfl) ?_
  refine lv_iload_n hx hb dX6_write_2 rfl (lv_at hl 1 rfl) ?_
  refine va_calli (va_runV (As := [.int x]) (rest := [.ref ((g 0))]) ⟨hx, hb, hml, hown, hts⟩ (c_X6_isBlock l E g th aa sv ke tx ln ro ai wr dg nb va se rv x hnb2 hnb) (cwV 1 hts gX6_write_X6_isBlock rfl rfl rfl (by decide +kernel) ⟨Nat.le_of_ble_eq_true rfl, Nat.le_of_ble_eq_true rfl⟩) ⟨wS.blind, (w_recv hK hP 0 (by decide) rfl (ci := 6) rfl), fun U hU hW => wS.go hP hK hI hU hW⟩ rfl rfl hl.1 rfl (lv_room (Nat.le_of_ble_eq_true rfl)) dX6_write_3 ⟨Nat.zero_le _, Nat.zero_le _⟩) hS (fun q _ h => h.elim) (fun q h => h.elim) (fun r_1 uu t H_1 locs_1 ht hvm hw hB hz1 hk1 hS => ?_)
  have hP := hP.same hk1
  obtain rfl : r_1 = (bI (inB x 0 (nI (nb - 1)))) := hw
  refine lv_if_ne (tgt := 13) hx hb dX6_write_6 (by decide) (fun c_2 => ?_) (fun c_2 => ?_)
  · rw [hB1] at c_2; exact absurd rfl c_2
  · refine lv_iconst (v := 1) hx hb dX6_write_9 (by decide) ?_
    refine lv_goto (tgt := 28) hx hb dX6_write_10 (by decide) ?_
    refine va_calli (va_runV (As := [.int 1]) (rest := []) ⟨hx, hb, hml, hown, hts⟩ (c_X6_holds l E g (mdE nb va se rv) th aa sv ke tx ln ro ai wr dg 1) (cwV 1 hts gX6_write_X6_holds rfl rfl rfl (by decide +kernel) ⟨Nat.le_of_ble_eq_true rfl, Nat.le_of_ble_eq_true rfl⟩) ⟨wS.blind, (w_recv hK hP 0 (by decide) rfl (ci := 6) rfl), fun U hU hW => wS.go hP hK hI hU hW⟩ rfl rfl hl.1 rfl (lv_room (Nat.le_of_ble_eq_true rfl)) dX6_write_28 ⟨Nat.zero_le _, Nat.zero_le _⟩) hS (fun q _ h => h) (fun q h => h) (fun r_3 uu t H_3 locs_3 ht hvm hw hB hz1 hk1 hS => ?_)
    rw [ht] at hB
    have hP : wP E 6 g (moF E g 1 (mdE nb va se rv) aa sv ke tx ln ro ai wr dg) H_3 := hB
    obtain rfl : r_3 = 0 := hw
    refine lv_if_ne (tgt := 36) hx hb dX6_write_31 (by decide) (fun c_4 => ?_) (fun c_4 => ?_)
    · exact absurd rfl c_4
    · refine lv_iconst (v := 0) hx hb dX6_write_34 (by decide) ?_
      exact W.iret (v := 0) hx hb hr (fun t ht hW => ⟨⟨_, (), rfl, rfl, (by show MOB E g 1 ln tx nb va se rc ke hs (t.heap); rw [ht]; exact ⟨sv, _, _, _, ⟨_, _, _, hP, hrv⟩, hsv, hke, hln, hnb2, hnb⟩)⟩, hS.F ht⟩) hS.2.2 dX6_write_35
set_option maxHeartbeats 4000000 in
set_option maxRecDepth 100000 in
theorem c_X6_write_no2 (l : Launch) (E : wE) (g : Nat → Nat) (th : Int32) (ln : Nat) (tx : Nat → Int32) (nb : Nat) (va : Nat → Int32) (se : Int32) (rc : Nat → MR) (ke : Nat) (hs : Nat → MS) (x y : Int32) (hB1 : inB x 0 (nI (nb - 1)) = true) (hB2 : inB y 0 65535 = false) : Met l yX6_write wsX6_write ({ frames := 3, cells := 0, slots := 0, locals := 64 }) (va_Pc [.ref ((g 0)), .int x, .int y] (wS E 6 g (MOB E g th ln tx nb va se rc ke hs))) (va_Qi (fun (r : Int32) (_ : Unit) => r = 0) (fun _ t => MOB E g 2 ln tx nb va se rc ke hs (t.heap)) (wF 6 g)) 0 0 (wF 6 g) := by
  refine Met.ofW (cc := cX6_write) (maxL := 4) (ret := (some .int)) (by decide) rfl ?_
  intro p e s m args below meth c s₁ B hml hv
  obtain ⟨rfl, ⟨sv, ai, wr, dg, ⟨aa, ro, rv, hP, hrv⟩, hsv, hke, hln, hnb2, hnb⟩, hK, hI⟩ := hv
  have hx := B.exec
  have hb := B.bytes
  have hr := B.returns
  have hts := atoms_spec (ws := wsX6_write) B.pre
  have hown : s.vm.findClass RX6 = some m.cls := findClass_of_methodNamed B.named
  have hlocks := B.notSynchronized
  have hS : va_S (wF 6 g) s.heap s.heap [] := va_S.rf
  have hA : ∀ k, k < 6 → (wF 6 g) (g k) := wF_in
  have hl := lv_entry ([.ref ((g 0)), .int x, .int y]) (n := 4) (Nat.le_of_ble_eq_true rfl)
  rw [lg_entry_eq]
  generalize (lg_sl ([.ref ((g 0)), .int x, .int y]) ++ List.replicate (4 - (lg_sl ([.ref ((g 0)), .int x, .int y])).length) Slot.unset).toArray = ls at hl ⊢
  have hl : lv_has ls 4 [(0, .ref ((g 0))), (1, .int x), (2, .int y)] := hl
  have hbN := hnb
  refine lv_aload_n hx hb dX6_write_0 rfl (lv_at hl 0 rfl) ?_
  refine lv_aload_n hx hb dX6_write_1 rfl (lv_at hl 0 rfl) ?_
  refine lv_iload_n hx hb dX6_write_2 rfl (lv_at hl 1 rfl) ?_
  refine va_calli (va_runV (As := [.int x]) (rest := [.ref ((g 0))]) ⟨hx, hb, hml, hown, hts⟩ (c_X6_isBlock l E g th aa sv ke tx ln ro ai wr dg nb va se rv x hnb2 hnb) (cwV 1 hts gX6_write_X6_isBlock rfl rfl rfl (by decide +kernel) ⟨Nat.le_of_ble_eq_true rfl, Nat.le_of_ble_eq_true rfl⟩) ⟨wS.blind, (w_recv hK hP 0 (by decide) rfl (ci := 6) rfl), fun U hU hW => wS.go hP hK hI hU hW⟩ rfl rfl hl.1 rfl (lv_room (Nat.le_of_ble_eq_true rfl)) dX6_write_3 ⟨Nat.zero_le _, Nat.zero_le _⟩) hS (fun q _ h => h.elim) (fun q h => h.elim) (fun r_1 uu t H_1 locs_1 ht hvm hw hB hz1 hk1 hS => ?_)
  have hP := hP.same hk1
  obtain rfl : r_1 = (bI (inB x 0 (nI (nb - 1)))) := hw
  refine lv_if_ne (tgt := 13) hx hb dX6_write_6 (by decide) (fun c_2 => ?_) (fun c_2 => ?_)
  · refine lv_iload_n hx hb dX6_write_13 rfl (lv_at hl 2 rfl) ?_
    refine lv_iconst (v := 0) hx hb dX6_write_14 (by decide) ?_
    refine lv_ldc hx hb hown (hts (.constant RX6 87 (65535)) (List.mem_of_getElem? (i := 1) rfl)) dX6_write_15 ?_
    refine va_calli (va_runS (As := [.int y, .int 0, .int 65535]) (rest := [.ref ((g 0))]) ⟨hx, hb, hml, hown, hts⟩ (c_X6_in l y 0 65535) (va_cwS 3 hts gX6_write_X6_in rfl rfl rfl (by decide +kernel) ⟨Nat.le_of_ble_eq_true rfl, Nat.le_of_ble_eq_true rfl⟩) ⟨wU_blind, fun U hU hW => ⟨rfl, trivial⟩⟩ rfl rfl hl.1 rfl (lv_room (Nat.le_of_ble_eq_true rfl)) dX6_write_17 ⟨Nat.zero_le _, Nat.zero_le _⟩) hS (fun q _ h => h.elim) (fun q h => h.elim) (fun r_3 uu t H_3 locs_3 ht hvm hw hB hz1 hk1 hS => ?_)
    have hP := hP.same hk1
    obtain rfl : r_3 = (bI (inB y 0 65535)) := hw
    refine lv_if_ne (tgt := 27) hx hb dX6_write_20 (by decide) (fun c_4 => ?_) (fun c_4 => ?_)
    · rw [hB2] at c_4; exact absurd rfl c_4
    · refine lv_iconst (v := 2) hx hb dX6_write_23 (by decide) ?_
      refine lv_goto (tgt := 28) hx hb dX6_write_24 (by decide) ?_
      refine va_calli (va_runV (As := [.int 2]) (rest := []) ⟨hx, hb, hml, hown, hts⟩ (c_X6_holds l E g (mdE nb va se rv) th aa sv ke tx ln ro ai wr dg 2) (cwV 1 hts gX6_write_X6_holds rfl rfl rfl (by decide +kernel) ⟨Nat.le_of_ble_eq_true rfl, Nat.le_of_ble_eq_true rfl⟩) ⟨wS.blind, (w_recv hK hP 0 (by decide) rfl (ci := 6) rfl), fun U hU hW => wS.go hP hK hI hU hW⟩ rfl rfl hl.1 rfl (lv_room (Nat.le_of_ble_eq_true rfl)) dX6_write_28 ⟨Nat.zero_le _, Nat.zero_le _⟩) hS (fun q _ h => h) (fun q h => h) (fun r_5 uu t H_5 locs_5 ht hvm hw hB hz1 hk1 hS => ?_)
      rw [ht] at hB
      have hP : wP E 6 g (moF E g 2 (mdE nb va se rv) aa sv ke tx ln ro ai wr dg) H_5 := hB
      obtain rfl : r_5 = 0 := hw
      refine lv_if_ne (tgt := 36) hx hb dX6_write_31 (by decide) (fun c_6 => ?_) (fun c_6 => ?_)
      · exact absurd rfl c_6
      · refine lv_iconst (v := 0) hx hb dX6_write_34 (by decide) ?_
        exact W.iret (v := 0) hx hb hr (fun t ht hW => ⟨⟨_, (), rfl, rfl, (by show MOB E g 2 ln tx nb va se rc ke hs (t.heap); rw [ht]; exact ⟨sv, _, _, _, ⟨_, _, _, hP, hrv⟩, hsv, hke, hln, hnb2, hnb⟩)⟩, hS.F ht⟩) hS.2.2 dX6_write_35
  · rw [hB1] at c_2; exact absurd c_2 (by decide)
set_option maxHeartbeats 4000000 in
set_option maxRecDepth 100000 in
theorem c_X6_listen_ok (l : Launch) (E : wE) (g : Nat → Nat) (th : Int32) (ln : Nat) (tx : Nat → Int32) (nb : Nat) (va : Nat → Int32) (se : Int32) (rc : Nat → MR) (ke : Nat) (hs : Nat → MS) (u : Nat) (hu3 : u < 3) (el : Bool) : Met l yX6_listen wsX6_listen ({ frames := 2, cells := 0, slots := 0, locals := 42 }) (va_Pc [.ref ((g 0)), .int (nI u), .int ((bI el))] (wS E 6 g (MOB E g th ln tx nb va se rc ke hs))) (va_Qi (fun (r : Int32) (_ : Unit) => r = bI (rc u).1) (fun _ t => MOB E g 0 ln tx nb va se (va_up rc u (el, (rc u).2)) (kpK ke) (pushM ke hs (nb, va, se, rc)) (t.heap)) (wF 6 g)) 0 0 (wF 6 g) := by
  refine Met.ofW (cc := cX6_listen) (maxL := 4) (ret := (some .int)) (by decide) rfl ?_
  intro p e s m args below meth c s₁ B hml hv
  obtain ⟨rfl, ⟨sv, ai, wr, dg, ⟨aa, ro, rv, hP, hrv⟩, hsv, hke, hln, hnb2, hnb⟩, hK, hI⟩ := hv
  have hx := B.exec
  have hb := B.bytes
  have hr := B.returns
  have hts := atoms_spec (ws := wsX6_listen) B.pre
  have hown : s.vm.findClass RX6 = some m.cls := findClass_of_methodNamed B.named
  have hlocks := B.notSynchronized
  have hS : va_S (wF 6 g) s.heap s.heap [] := va_S.rf
  have hin6 : ∀ w ∈ wsX60, w ∈ wsX6_listen := by decide +kernel
  have hA : ∀ k, k < 6 → (wF 6 g) (g k) := wF_in
  have hl := lv_entry ([.ref ((g 0)), .int (nI u), .int ((bI el))]) (n := 4) (Nat.le_of_ble_eq_true rfl)
  rw [lg_entry_eq]
  generalize (lg_sl ([.ref ((g 0)), .int (nI u), .int ((bI el))]) ++ List.replicate (4 - (lg_sl ([.ref ((g 0)), .int (nI u), .int ((bI el))])).length) Slot.unset).toArray = ls at hl ⊢
  have hl : lv_has ls 4 [(0, .ref ((g 0))), (1, .int (nI u)), (2, .int ((bI el)))] := hl
  have hbN := hnb
  have hB1 : inB (nI u) 0 2 = true := inB_t (n := u) (a := 0) (b := 2) rfl rfl rfl (by omega) (by omega) (by omega)
  refine lv_aload_n hx hb dX6_listen_0 rfl (lv_at hl 0 rfl) ?_
  refine lv_iload_n hx hb dX6_listen_1 rfl (lv_at hl 1 rfl) ?_
  refine va_calli (va_runS (As := [.int (nI u)]) (rest := [.ref ((g 0))]) ⟨hx, hb, hml, hown, hts⟩ (c_X6_isReceiver l (nI u)) (va_cwS 1 hts gX6_listen_X6_isReceiver rfl rfl rfl (by decide +kernel) ⟨Nat.le_of_ble_eq_true rfl, Nat.le_of_ble_eq_true rfl⟩) ⟨wU_blind, fun U hU hW => ⟨rfl, trivial⟩⟩ rfl rfl hl.1 rfl (lv_room (Nat.le_of_ble_eq_true rfl)) dX6_listen_2 ⟨Nat.zero_le _, Nat.zero_le _⟩) hS (fun q _ h => h.elim) (fun q h => h.elim) (fun r_1 uu t H_1 locs_1 ht hvm hw hB hz1 hk1 hS => ?_)
  have hP := hP.same hk1
  obtain rfl : r_1 = (bI (inB (nI u) 0 2)) := hw
  refine lv_if_eq (tgt := 12) hx hb dX6_listen_5 (by decide) (fun c_2 => ?_) (fun c_2 => ?_)
  · rw [hB1] at c_2; exact absurd c_2 (by decide)
  · refine lv_iconst (v := 0) hx hb dX6_listen_8 (by decide) ?_
    refine lv_goto (tgt := 13) hx hb dX6_listen_9 (by decide) ?_
    refine va_calli (va_runV (As := [.int 0]) (rest := []) ⟨hx, hb, hml, hown, hts⟩ (c_X6_holds l E g (mdE nb va se rv) th aa sv ke tx ln ro ai wr dg 0) (cwV 1 hts gX6_listen_X6_holds rfl rfl rfl (by decide +kernel) ⟨Nat.le_of_ble_eq_true rfl, Nat.le_of_ble_eq_true rfl⟩) ⟨wS.blind, (w_recv hK hP 0 (by decide) rfl (ci := 6) rfl), fun U hU hW => wS.go hP hK hI hU hW⟩ rfl rfl hl.1 rfl (lv_room (Nat.le_of_ble_eq_true rfl)) dX6_listen_13 ⟨Nat.zero_le _, Nat.zero_le _⟩) hS (fun q _ h => h) (fun q h => h) (fun r_3 uu t H_3 locs_3 ht hvm hw hB hz1 hk1 hS => ?_)
    rw [ht] at hB
    have hP : wP E 6 g (moF E g 0 (mdE nb va se rv) aa sv ke tx ln ro ai wr dg) H_3 := hB
    obtain rfl : r_3 = 1 := hw
    refine lv_if_ne (tgt := 21) hx hb dX6_listen_16 (by decide) (fun c_4 => ?_) (fun c_4 => ?_)
    · refine lv_aload_n hx hb dX6_listen_21 rfl (lv_at hl 0 rfl) ?_
      refine va_callv (va_runV (As := []) (rest := []) ⟨hx, hb, hml, hown, hts⟩ (c_X6_save l E g (mdE nb va se rv) 0 aa sv ke tx ln ro ai wr dg hke) (cwV 0 hts gX6_listen_X6_save rfl rfl rfl (by decide +kernel) ⟨Nat.le_of_ble_eq_true rfl, Nat.le_of_ble_eq_true rfl⟩) ⟨wS.blind, (w_recv hK hP 0 (by decide) rfl (ci := 6) rfl), fun U hU hW => wS.go hP hK hI hU hW⟩ rfl rfl hl.1 rfl (lv_room (Nat.le_of_ble_eq_true rfl)) dX6_listen_22 ⟨Nat.zero_le _, Nat.zero_le _⟩) hS (fun q _ h => h) (fun q h => h) (fun uu t H_5 locs_5 ht hvm hw hB hz1 hk1 hS => ?_)
      rw [ht] at hB
      obtain ⟨sv_5, hP, hs1_5, hs2_5⟩ := hB
      rw [kpK_eq hke] at hP
      have hP : wP E 6 g (moF E g 0 (mdE nb va se rv) aa sv_5 (kpK ke) tx ln ro ai wr dg) H_5 := hP
      have hsv_5 : svP (pushM ke hs (nb, va, se, rc)) (kpK ke) sv_5 := svP_push hke hsv ⟨rv, fun _ _ => rfl, hrv, hnb2, hnb⟩ hs1_5 hs2_5
      have hu3 : u < 3 := by omega
      have hri_6 := hrv u hu3
      obtain ⟨w_6, hv_6, hw_6, hok_6⟩ := hri_6
      rw [show rv = va_up rv u (rvE ((rc u).1) ((rc u).2.1) ((rc u).2.2.1) ((rc u).2.2.2.1) ((rc u).2.2.2.2.1) ((rc u).2.2.2.2.2.length) w_6) from by rw [← hv_6, va_up_id]] at hP
      have hkk_6 := hok_6.2.1
      have hll_6 := hok_6.1
      refine lv_aload_n hx hb dX6_listen_25 rfl (lv_at hl 0 rfl) ?_
      refine w_get (C := RX6) (T := TX6) (N := 11) (ci := 6) (v := .ref ((g 1))) hx hb hts hin6 hown hK hP 0 (by decide) rfl rfl 1 (by decide) (hts (.fieldLink RX6 7 "MixedBlocksModel" "s" "[I") (List.mem_of_getElem? (i := 1) rfl)) (fun _ h9 => h9) rfl dX6_listen_26 ?_
      refine lv_iload_n hx hb dX6_listen_29 rfl (lv_at hl 1 rfl) ?_
      refine lv_iconst (v := 0) hx hb dX6_listen_30 (by decide) ?_
      refine va_calli (va_runS (As := [.int (nI u), .int 0]) (rest := [.ref ((g 1))]) ⟨hx, hb, hml, hown, hts⟩ (c_X6_of l u 0) (va_cwS 2 hts gX6_listen_X6_of rfl rfl rfl (by decide +kernel) ⟨Nat.le_of_ble_eq_true rfl, Nat.le_of_ble_eq_true rfl⟩) ⟨wU_blind, fun U hU hW => ⟨rfl, trivial⟩⟩ rfl rfl hl.1 rfl (lv_room (Nat.le_of_ble_eq_true rfl)) dX6_listen_31 ⟨Nat.zero_le _, Nat.zero_le _⟩) hS (fun q _ h => h.elim) (fun q h => h.elim) (fun r_7 uu t H_7 locs_7 ht hvm hw hB hz1 hk1 hS => ?_)
      have hP := hP.same hk1
      obtain rfl : r_7 = (nI (14 + 30 * u + 0)) := hw
      refine w_iald hx hb hK hP 1 (by decide) rfl (vp_in_nI (by omega) (by decide)) dX6_listen_34 ?_
      rw [nI_clamp (by omega), md_g0]
      refine lv_istore_n (lv' := [(3, .int ((bI ((rc u).1)))), (0, .ref ((g 0))), (1, .int (nI u)), (2, .int ((bI el)))]) hx hb dX6_listen_35 rfl hl (by decide) rfl (fun ls hl => ?_)
      refine lv_aload_n hx hb dX6_listen_36 rfl (lv_at hl 1 rfl) ?_
      refine w_get (C := RX6) (T := TX6) (N := 11) (ci := 6) (v := .ref ((g 1))) hx hb hts hin6 hown hK hP 0 (by decide) rfl rfl 1 (by decide) (hts (.fieldLink RX6 7 "MixedBlocksModel" "s" "[I") (List.mem_of_getElem? (i := 1) rfl)) (fun _ h9 => h9) rfl dX6_listen_37 ?_
      refine lv_iload_n hx hb dX6_listen_40 rfl (lv_at hl 2 rfl) ?_
      refine lv_iconst (v := 0) hx hb dX6_listen_41 (by decide) ?_
      refine va_calli (va_runS (As := [.int (nI u), .int 0]) (rest := [.ref ((g 1))]) ⟨hx, hb, hml, hown, hts⟩ (c_X6_of l u 0) (va_cwS 2 hts gX6_listen_X6_of rfl rfl rfl (by decide +kernel) ⟨Nat.le_of_ble_eq_true rfl, Nat.le_of_ble_eq_true rfl⟩) ⟨wU_blind, fun U hU hW => ⟨rfl, trivial⟩⟩ rfl rfl hl.1 rfl (lv_room (Nat.le_of_ble_eq_true rfl)) dX6_listen_42 ⟨Nat.zero_le _, Nat.zero_le _⟩) hS (fun q _ h => h.elim) (fun q h => h.elim) (fun r_8 uu t H_8 locs_8 ht hvm hw hB hz1 hk1 hS => ?_)
      have hP := hP.same hk1
      obtain rfl : r_8 = (nI (14 + 30 * u + 0)) := hw
      refine lv_iload_n hx hb dX6_listen_45 rfl (lv_at hl 3 rfl) ?_
      refine lv_if_eq (tgt := 53) hx hb dX6_listen_46 (by decide) (fun c_9 => ?_) (fun c_9 => ?_)
      · refine lv_iconst (v := 0) hx hb dX6_listen_53 (by decide) ?_
        refine w_iast hx hb hK hP hI hA hS 1 (by decide) rfl (vp_in_nI (by omega) (by decide)) dX6_listen_54 (moF E g 0 (upd (mdE nb va se (va_up rv u (rvE ((rc u).1) ((rc u).2.1) ((rc u).2.2.1) ((rc u).2.2.2.1) ((rc u).2.2.2.2.1) ((rc u).2.2.2.2.2.length) w_6))) (14 + 30 * u + 0) 0) aa sv_5 (kpK ke) tx ln ro ai wr dg) (congrArg (fun z : Nat => (Sum.inl (E.2.1, 104, Sum.inl (upd (mdE nb va se (va_up rv u (rvE ((rc u).1) ((rc u).2.1) ((rc u).2.2.1) ((rc u).2.2.2.1) ((rc u).2.2.2.2.1) ((rc u).2.2.2.2.2.length) w_6))) z 0)) : va_E)) (nI_clamp (by omega)).symm) mo_ne1 (fun H_10 locs_10 hP hS => ?_)
        rw [show (upd (mdE nb va se (va_up rv u (rvE ((rc u).1) ((rc u).2.1) ((rc u).2.2.1) ((rc u).2.2.2.1) ((rc u).2.2.2.2.1) ((rc u).2.2.2.2.2.length) w_6))) (14 + 30 * u + 0) 0) = (mdE nb va se (va_up rv u (rvE false ((rc u).2.1) ((rc u).2.2.1) ((rc u).2.2.2.1) ((rc u).2.2.2.2.1) ((rc u).2.2.2.2.2.length) w_6))) from md_u0 (li' := false)] at hP
        refine lv_iload_n hx hb dX6_listen_55 rfl (lv_at hl 0 rfl) ?_
        have hel := bI_0 c_9
        subst hel
        have hrz_11 : ∀ j9, j9 < 3 → rvP ((va_up rc u (false, (rc u).2.1, (rc u).2.2.1, (rc u).2.2.2.1, (rc u).2.2.2.2.1, (rc u).2.2.2.2.2)) j9) ((va_up rv u (rvE false ((rc u).2.1) ((rc u).2.2.1) ((rc u).2.2.2.1) ((rc u).2.2.2.2.1) ((rc u).2.2.2.2.2.length) w_6)) j9) := rvP_up hrv ⟨w_6, rfl, hw_6, hok_6⟩
        exact W.iret (v := (bI ((rc u).1))) hx hb hr (fun t ht hW => ⟨⟨_, (), rfl, rfl, (by show MOB E g 0 ln tx nb va se (va_up rc u (false, (rc u).2)) (kpK ke) (pushM ke hs (nb, va, se, rc)) (t.heap); rw [ht]; exact ⟨sv_5, _, _, _, ⟨_, _, _, hP, hrz_11⟩, hsv_5, (kpK_le hke), hln, hnb2, hnb⟩)⟩, hS.F ht⟩) hS.2.2 dX6_listen_56
      · refine lv_iconst (v := 1) hx hb dX6_listen_49 (by decide) ?_
        refine lv_goto (tgt := 54) hx hb dX6_listen_50 (by decide) ?_
        refine w_iast hx hb hK hP hI hA hS 1 (by decide) rfl (vp_in_nI (by omega) (by decide)) dX6_listen_54 (moF E g 0 (upd (mdE nb va se (va_up rv u (rvE ((rc u).1) ((rc u).2.1) ((rc u).2.2.1) ((rc u).2.2.2.1) ((rc u).2.2.2.2.1) ((rc u).2.2.2.2.2.length) w_6))) (14 + 30 * u + 0) 1) aa sv_5 (kpK ke) tx ln ro ai wr dg) (congrArg (fun z : Nat => (Sum.inl (E.2.1, 104, Sum.inl (upd (mdE nb va se (va_up rv u (rvE ((rc u).1) ((rc u).2.1) ((rc u).2.2.1) ((rc u).2.2.2.1) ((rc u).2.2.2.2.1) ((rc u).2.2.2.2.2.length) w_6))) z 1)) : va_E)) (nI_clamp (by omega)).symm) mo_ne1 (fun H_12 locs_12 hP hS => ?_)
        rw [show (upd (mdE nb va se (va_up rv u (rvE ((rc u).1) ((rc u).2.1) ((rc u).2.2.1) ((rc u).2.2.2.1) ((rc u).2.2.2.2.1) ((rc u).2.2.2.2.2.length) w_6))) (14 + 30 * u + 0) 1) = (mdE nb va se (va_up rv u (rvE true ((rc u).2.1) ((rc u).2.2.1) ((rc u).2.2.2.1) ((rc u).2.2.2.2.1) ((rc u).2.2.2.2.2.length) w_6))) from md_u0 (li' := true)] at hP
        refine lv_iload_n hx hb dX6_listen_55 rfl (lv_at hl 0 rfl) ?_
        have hel := bI_1 c_9
        subst hel
        have hrz_13 : ∀ j9, j9 < 3 → rvP ((va_up rc u (true, (rc u).2.1, (rc u).2.2.1, (rc u).2.2.2.1, (rc u).2.2.2.2.1, (rc u).2.2.2.2.2)) j9) ((va_up rv u (rvE true ((rc u).2.1) ((rc u).2.2.1) ((rc u).2.2.2.1) ((rc u).2.2.2.2.1) ((rc u).2.2.2.2.2.length) w_6)) j9) := rvP_up hrv ⟨w_6, rfl, hw_6, hok_6⟩
        exact W.iret (v := (bI ((rc u).1))) hx hb hr (fun t ht hW => ⟨⟨_, (), rfl, rfl, (by show MOB E g 0 ln tx nb va se (va_up rc u (true, (rc u).2)) (kpK ke) (pushM ke hs (nb, va, se, rc)) (t.heap); rw [ht]; exact ⟨sv_5, _, _, _, ⟨_, _, _, hP, hrz_13⟩, hsv_5, (kpK_le hke), hln, hnb2, hnb⟩)⟩, hS.F ht⟩) hS.2.2 dX6_listen_56
    · exact absurd c_4 (by decide)
set_option maxHeartbeats 4000000 in
set_option maxRecDepth 100000 in
theorem c_X6_listen_no (l : Launch) (E : wE) (g : Nat → Nat) (th : Int32) (ln : Nat) (tx : Nat → Int32) (nb : Nat) (va : Nat → Int32) (se : Int32) (rc : Nat → MR) (ke : Nat) (hs : Nat → MS) (x : Int32) (el : Bool) (hB1 : inB x 0 2 = false) : Met l yX6_listen wsX6_listen ({ frames := 2, cells := 0, slots := 0, locals := 42 }) (va_Pc [.ref ((g 0)), .int x, .int ((bI el))] (wS E 6 g (MOB E g th ln tx nb va se rc ke hs))) (va_Qi (fun (r : Int32) (_ : Unit) => r = 0) (fun _ t => MOB E g 1 ln tx nb va se rc ke hs (t.heap)) (wF 6 g)) 0 0 (wF 6 g) := by
  refine Met.ofW (cc := cX6_listen) (maxL := 4) (ret := (some .int)) (by decide) rfl ?_
  intro p e s m args below meth c s₁ B hml hv
  obtain ⟨rfl, ⟨sv, ai, wr, dg, ⟨aa, ro, rv, hP, hrv⟩, hsv, hke, hln, hnb2, hnb⟩, hK, hI⟩ := hv
  have hx := B.exec
  have hb := B.bytes
  have hr := B.returns
  have hts := atoms_spec (ws := wsX6_listen) B.pre
  have hown : s.vm.findClass RX6 = some m.cls := findClass_of_methodNamed B.named
  have hlocks := B.notSynchronized
  have hS : va_S (wF 6 g) s.heap s.heap [] := va_S.rf
  have hA : ∀ k, k < 6 → (wF 6 g) (g k) := wF_in
  have hl := lv_entry ([.ref ((g 0)), .int x, .int ((bI el))]) (n := 4) (Nat.le_of_ble_eq_true rfl)
  rw [lg_entry_eq]
  generalize (lg_sl ([.ref ((g 0)), .int x, .int ((bI el))]) ++ List.replicate (4 - (lg_sl ([.ref ((g 0)), .int x, .int ((bI el))])).length) Slot.unset).toArray = ls at hl ⊢
  have hl : lv_has ls 4 [(0, .ref ((g 0))), (1, .int x), (2, .int ((bI el)))] := hl
  have hbN := hnb
  refine lv_aload_n hx hb dX6_listen_0 rfl (lv_at hl 0 rfl) ?_
  refine lv_iload_n hx hb dX6_listen_1 rfl (lv_at hl 1 rfl) ?_
  refine va_calli (va_runS (As := [.int x]) (rest := [.ref ((g 0))]) ⟨hx, hb, hml, hown, hts⟩ (c_X6_isReceiver l x) (va_cwS 1 hts gX6_listen_X6_isReceiver rfl rfl rfl (by decide +kernel) ⟨Nat.le_of_ble_eq_true rfl, Nat.le_of_ble_eq_true rfl⟩) ⟨wU_blind, fun U hU hW => ⟨rfl, trivial⟩⟩ rfl rfl hl.1 rfl (lv_room (Nat.le_of_ble_eq_true rfl)) dX6_listen_2 ⟨Nat.zero_le _, Nat.zero_le _⟩) hS (fun q _ h => h.elim) (fun q h => h.elim) (fun r_1 uu t H_1 locs_1 ht hvm hw hB hz1 hk1 hS => ?_)
  have hP := hP.same hk1
  obtain rfl : r_1 = (bI (inB x 0 2)) := hw
  refine lv_if_eq (tgt := 12) hx hb dX6_listen_5 (by decide) (fun c_2 => ?_) (fun c_2 => ?_)
  · refine lv_iconst (v := 1) hx hb dX6_listen_12 (by decide) ?_
    refine va_calli (va_runV (As := [.int 1]) (rest := []) ⟨hx, hb, hml, hown, hts⟩ (c_X6_holds l E g (mdE nb va se rv) th aa sv ke tx ln ro ai wr dg 1) (cwV 1 hts gX6_listen_X6_holds rfl rfl rfl (by decide +kernel) ⟨Nat.le_of_ble_eq_true rfl, Nat.le_of_ble_eq_true rfl⟩) ⟨wS.blind, (w_recv hK hP 0 (by decide) rfl (ci := 6) rfl), fun U hU hW => wS.go hP hK hI hU hW⟩ rfl rfl hl.1 rfl (lv_room (Nat.le_of_ble_eq_true rfl)) dX6_listen_13 ⟨Nat.zero_le _, Nat.zero_le _⟩) hS (fun q _ h => h) (fun q h => h) (fun r_3 uu t H_3 locs_3 ht hvm hw hB hz1 hk1 hS => ?_)
    rw [ht] at hB
    have hP : wP E 6 g (moF E g 1 (mdE nb va se rv) aa sv ke tx ln ro ai wr dg) H_3 := hB
    obtain rfl : r_3 = 0 := hw
    refine lv_if_ne (tgt := 21) hx hb dX6_listen_16 (by decide) (fun c_4 => ?_) (fun c_4 => ?_)
    · exact absurd rfl c_4
    · refine lv_iconst (v := 0) hx hb dX6_listen_19 (by decide) ?_
      exact W.iret (v := 0) hx hb hr (fun t ht hW => ⟨⟨_, (), rfl, rfl, (by show MOB E g 1 ln tx nb va se rc ke hs (t.heap); rw [ht]; exact ⟨sv, _, _, _, ⟨_, _, _, hP, hrv⟩, hsv, hke, hln, hnb2, hnb⟩)⟩, hS.F ht⟩) hS.2.2 dX6_listen_20
  · rw [hB1] at c_2; exact absurd rfl c_2
set_option maxHeartbeats 4000000 in
set_option maxRecDepth 100000 in
theorem c_X6_forget_ok (l : Launch) (E : wE) (g : Nat → Nat) (th : Int32) (ln : Nat) (tx : Nat → Int32) (nb : Nat) (va : Nat → Int32) (se : Int32) (rc : Nat → MR) (ke : Nat) (hs : Nat → MS) (u : Nat) (hu3 : u < 3) : Met l yX6_forget wsX6_forget ({ frames := 2, cells := 0, slots := 0, locals := 43 }) (va_Pc [.ref ((g 0)), .int (nI u)] (wS E 6 g (MOB E g th ln tx nb va se rc ke hs))) (va_Qi (fun (r : Int32) (_ : Unit) => r = nI (pc (rc u).2.1)) (fun _ t => MOB E g 0 ln tx nb va se (va_up rc u (fgM (rc u))) (kpK ke) (pushM ke hs (nb, va, se, rc)) (t.heap)) (wF 6 g)) 0 0 (wF 6 g) := by
  refine Met.ofW (cc := cX6_forget) (maxL := 3) (ret := (some .int)) (by decide) rfl ?_
  intro p e s m args below meth c s₁ B hml hv
  obtain ⟨rfl, ⟨sv, ai, wr, dg, ⟨aa, ro, rv, hP, hrv⟩, hsv, hke, hln, hnb2, hnb⟩, hK, hI⟩ := hv
  have hx := B.exec
  have hb := B.bytes
  have hr := B.returns
  have hts := atoms_spec (ws := wsX6_forget) B.pre
  have hown : s.vm.findClass RX6 = some m.cls := findClass_of_methodNamed B.named
  have hlocks := B.notSynchronized
  have hS : va_S (wF 6 g) s.heap s.heap [] := va_S.rf
  have hin6 : ∀ w ∈ wsX60, w ∈ wsX6_forget := by decide +kernel
  have hA : ∀ k, k < 6 → (wF 6 g) (g k) := wF_in
  have hl := lv_entry ([.ref ((g 0)), .int (nI u)]) (n := 3) (Nat.le_of_ble_eq_true rfl)
  rw [lg_entry_eq]
  generalize (lg_sl ([.ref ((g 0)), .int (nI u)]) ++ List.replicate (3 - (lg_sl ([.ref ((g 0)), .int (nI u)])).length) Slot.unset).toArray = ls at hl ⊢
  have hl : lv_has ls 3 [(0, .ref ((g 0))), (1, .int (nI u))] := hl
  have hbN := hnb
  have hB1 : inB (nI u) 0 2 = true := inB_t (n := u) (a := 0) (b := 2) rfl rfl rfl (by omega) (by omega) (by omega)
  refine lv_aload_n hx hb dX6_forget_0 rfl (lv_at hl 0 rfl) ?_
  refine lv_iload_n hx hb dX6_forget_1 rfl (lv_at hl 1 rfl) ?_
  refine va_calli (va_runS (As := [.int (nI u)]) (rest := [.ref ((g 0))]) ⟨hx, hb, hml, hown, hts⟩ (c_X6_isReceiver l (nI u)) (va_cwS 1 hts gX6_forget_X6_isReceiver rfl rfl rfl (by decide +kernel) ⟨Nat.le_of_ble_eq_true rfl, Nat.le_of_ble_eq_true rfl⟩) ⟨wU_blind, fun U hU hW => ⟨rfl, trivial⟩⟩ rfl rfl hl.1 rfl (lv_room (Nat.le_of_ble_eq_true rfl)) dX6_forget_2 ⟨Nat.zero_le _, Nat.zero_le _⟩) hS (fun q _ h => h.elim) (fun q h => h.elim) (fun r_1 uu t H_1 locs_1 ht hvm hw hB hz1 hk1 hS => ?_)
  have hP := hP.same hk1
  obtain rfl : r_1 = (bI (inB (nI u) 0 2)) := hw
  refine lv_if_eq (tgt := 12) hx hb dX6_forget_5 (by decide) (fun c_2 => ?_) (fun c_2 => ?_)
  · rw [hB1] at c_2; exact absurd c_2 (by decide)
  · refine lv_iconst (v := 0) hx hb dX6_forget_8 (by decide) ?_
    refine lv_goto (tgt := 13) hx hb dX6_forget_9 (by decide) ?_
    refine va_calli (va_runV (As := [.int 0]) (rest := []) ⟨hx, hb, hml, hown, hts⟩ (c_X6_holds l E g (mdE nb va se rv) th aa sv ke tx ln ro ai wr dg 0) (cwV 1 hts gX6_forget_X6_holds rfl rfl rfl (by decide +kernel) ⟨Nat.le_of_ble_eq_true rfl, Nat.le_of_ble_eq_true rfl⟩) ⟨wS.blind, (w_recv hK hP 0 (by decide) rfl (ci := 6) rfl), fun U hU hW => wS.go hP hK hI hU hW⟩ rfl rfl hl.1 rfl (lv_room (Nat.le_of_ble_eq_true rfl)) dX6_forget_13 ⟨Nat.zero_le _, Nat.zero_le _⟩) hS (fun q _ h => h) (fun q h => h) (fun r_3 uu t H_3 locs_3 ht hvm hw hB hz1 hk1 hS => ?_)
    rw [ht] at hB
    have hP : wP E 6 g (moF E g 0 (mdE nb va se rv) aa sv ke tx ln ro ai wr dg) H_3 := hB
    obtain rfl : r_3 = 1 := hw
    refine lv_if_ne (tgt := 21) hx hb dX6_forget_16 (by decide) (fun c_4 => ?_) (fun c_4 => ?_)
    · refine lv_aload_n hx hb dX6_forget_21 rfl (lv_at hl 0 rfl) ?_
      refine va_callv (va_runV (As := []) (rest := []) ⟨hx, hb, hml, hown, hts⟩ (c_X6_save l E g (mdE nb va se rv) 0 aa sv ke tx ln ro ai wr dg hke) (cwV 0 hts gX6_forget_X6_save rfl rfl rfl (by decide +kernel) ⟨Nat.le_of_ble_eq_true rfl, Nat.le_of_ble_eq_true rfl⟩) ⟨wS.blind, (w_recv hK hP 0 (by decide) rfl (ci := 6) rfl), fun U hU hW => wS.go hP hK hI hU hW⟩ rfl rfl hl.1 rfl (lv_room (Nat.le_of_ble_eq_true rfl)) dX6_forget_22 ⟨Nat.zero_le _, Nat.zero_le _⟩) hS (fun q _ h => h) (fun q h => h) (fun uu t H_5 locs_5 ht hvm hw hB hz1 hk1 hS => ?_)
      rw [ht] at hB
      obtain ⟨sv_5, hP, hs1_5, hs2_5⟩ := hB
      rw [kpK_eq hke] at hP
      have hP : wP E 6 g (moF E g 0 (mdE nb va se rv) aa sv_5 (kpK ke) tx ln ro ai wr dg) H_5 := hP
      have hsv_5 : svP (pushM ke hs (nb, va, se, rc)) (kpK ke) sv_5 := svP_push hke hsv ⟨rv, fun _ _ => rfl, hrv, hnb2, hnb⟩ hs1_5 hs2_5
      have hu3 : u < 3 := by omega
      have hri_6 := hrv u hu3
      obtain ⟨w_6, hv_6, hw_6, hok_6⟩ := hri_6
      rw [show rv = va_up rv u (rvE ((rc u).1) ((rc u).2.1) ((rc u).2.2.1) ((rc u).2.2.2.1) ((rc u).2.2.2.2.1) ((rc u).2.2.2.2.2.length) w_6) from by rw [← hv_6, va_up_id]] at hP
      have hkk_6 := hok_6.2.1
      have hll_6 := hok_6.1
      refine lv_aload_n hx hb dX6_forget_25 rfl (lv_at hl 0 rfl) ?_
      refine w_get (C := RX6) (T := TX6) (N := 11) (ci := 6) (v := .ref ((g 1))) hx hb hts hin6 hown hK hP 0 (by decide) rfl rfl 1 (by decide) (hts (.fieldLink RX6 7 "MixedBlocksModel" "s" "[I") (List.mem_of_getElem? (i := 1) rfl)) (fun _ h9 => h9) rfl dX6_forget_26 ?_
      refine lv_iload_n hx hb dX6_forget_29 rfl (lv_at hl 1 rfl) ?_
      refine lv_iconst (v := 1) hx hb dX6_forget_30 (by decide) ?_
      refine va_calli (va_runS (As := [.int (nI u), .int 1]) (rest := [.ref ((g 1))]) ⟨hx, hb, hml, hown, hts⟩ (c_X6_of l u 1) (va_cwS 2 hts gX6_forget_X6_of rfl rfl rfl (by decide +kernel) ⟨Nat.le_of_ble_eq_true rfl, Nat.le_of_ble_eq_true rfl⟩) ⟨wU_blind, fun U hU hW => ⟨rfl, trivial⟩⟩ rfl rfl hl.1 rfl (lv_room (Nat.le_of_ble_eq_true rfl)) dX6_forget_31 ⟨Nat.zero_le _, Nat.zero_le _⟩) hS (fun q _ h => h.elim) (fun q h => h.elim) (fun r_7 uu t H_7 locs_7 ht hvm hw hB hz1 hk1 hS => ?_)
      have hP := hP.same hk1
      obtain rfl : r_7 = (nI (14 + 30 * u + 1)) := hw
      refine w_iald hx hb hK hP 1 (by decide) rfl (vp_in_nI (by omega) (by decide)) dX6_forget_34 ?_
      rw [nI_clamp (by omega), md_g1]
      refine va_calli (va_runS (As := [.int (nI ((rc u).2.1))]) (rest := []) ⟨hx, hb, hml, hown, hts⟩ (c_X6_bits l ((rc u).2.1) (by omega)) (va_cwS 1 hts gX6_forget_X6_bits rfl rfl rfl (by decide +kernel) ⟨Nat.le_of_ble_eq_true rfl, Nat.le_of_ble_eq_true rfl⟩) ⟨wU_blind, fun U hU hW => ⟨rfl, trivial⟩⟩ rfl rfl hl.1 rfl (lv_room (Nat.le_of_ble_eq_true rfl)) dX6_forget_35 ⟨Nat.zero_le _, Nat.zero_le _⟩) hS (fun q _ h => h.elim) (fun q h => h.elim) (fun r_9 uu t H_9 locs_9 ht hvm hw hB hz1 hk1 hS => ?_)
      have hP := hP.same hk1
      have hpl_8 := pc_le ((rc u).2.1)
      obtain rfl : r_9 = (nI (pc ((rc u).2.1))) := hw
      refine lv_istore_n (lv' := [(2, .int ((nI (pc ((rc u).2.1))))), (0, .ref ((g 0))), (1, .int (nI u))]) hx hb dX6_forget_38 rfl hl (by decide) rfl (fun ls hl => ?_)
      refine lv_aload_n hx hb dX6_forget_39 rfl (lv_at hl 1 rfl) ?_
      refine lv_iload_n hx hb dX6_forget_40 rfl (lv_at hl 2 rfl) ?_
      refine va_callv (va_runV (As := [.int (nI u)]) (rest := []) ⟨hx, hb, hml, hown, hts⟩ (c_X6_forgets l E g 0 aa sv_5 (kpK ke) tx ln ro ai wr dg nb va se rv u ((rc u).1) ((rc u).2.1) ((rc u).2.2.1) ((rc u).2.2.2.1) ((rc u).2.2.2.2.1) ((rc u).2.2.2.2.2) hu3 ) (cwV 1 hts gX6_forget_X6_forgets rfl rfl rfl (by decide +kernel) ⟨Nat.le_of_ble_eq_true rfl, Nat.le_of_ble_eq_true rfl⟩) ⟨wS.blind, (w_recv hK hP 0 (by decide) rfl (ci := 6) rfl), fun U hU hW => wS.go ⟨_, hP, hw_6, hok_6⟩ hK hI hU hW⟩ rfl rfl hl.1 rfl (lv_room (Nat.le_of_ble_eq_true rfl)) dX6_forget_41 ⟨Nat.zero_le _, Nat.zero_le _⟩) hS (fun q _ h => h) (fun q h => h) (fun uu t H_10 locs_10 ht hvm hw hB hz1 hk1 hS => ?_)
      rw [ht] at hB
      obtain ⟨w_10, hP, hw_10, hok_10⟩ := hB
      have hP : wP E 6 g (moF E g 0 (mdE nb va se (va_up rv u (rvE ((rc u).1) 0 ((rc u).2.2.1) ((rc u).2.2.2.1) ((rc u).2.2.2.2.1) (([] : List Nat).length) w_10))) aa sv_5 (kpK ke) tx ln ro ai wr dg) H_10 := hP
      have hkk_10 := hok_10.2.1
      refine lv_iload_n hx hb dX6_forget_44 rfl (lv_at hl 0 rfl) ?_
      have hrz_11 : ∀ j9, j9 < 3 → rvP ((va_up rc u ((rc u).1, 0, (rc u).2.2.1, (rc u).2.2.2.1, (rc u).2.2.2.2.1, ([] : List Nat))) j9) ((va_up rv u (rvE ((rc u).1) 0 ((rc u).2.2.1) ((rc u).2.2.2.1) ((rc u).2.2.2.2.1) (([] : List Nat).length) w_10)) j9) := rvP_up hrv ⟨w_10, rfl, hw_10, hok_10⟩
      exact W.iret (v := (nI (pc ((rc u).2.1)))) hx hb hr (fun t ht hW => ⟨⟨_, (), rfl, rfl, (by show MOB E g 0 ln tx nb va se (va_up rc u (fgM (rc u))) (kpK ke) (pushM ke hs (nb, va, se, rc)) (t.heap); rw [ht]; exact ⟨sv_5, _, _, _, ⟨_, _, _, hP, hrz_11⟩, hsv_5, (kpK_le hke), hln, hnb2, hnb⟩)⟩, hS.F ht⟩) hS.2.2 dX6_forget_45
    · exact absurd c_4 (by decide)
set_option maxHeartbeats 4000000 in
set_option maxRecDepth 100000 in
theorem c_X6_forget_no (l : Launch) (E : wE) (g : Nat → Nat) (th : Int32) (ln : Nat) (tx : Nat → Int32) (nb : Nat) (va : Nat → Int32) (se : Int32) (rc : Nat → MR) (ke : Nat) (hs : Nat → MS) (x : Int32) (hB1 : inB x 0 2 = false) : Met l yX6_forget wsX6_forget ({ frames := 2, cells := 0, slots := 0, locals := 43 }) (va_Pc [.ref ((g 0)), .int x] (wS E 6 g (MOB E g th ln tx nb va se rc ke hs))) (va_Qi (fun (r : Int32) (_ : Unit) => r = 0) (fun _ t => MOB E g 1 ln tx nb va se rc ke hs (t.heap)) (wF 6 g)) 0 0 (wF 6 g) := by
  refine Met.ofW (cc := cX6_forget) (maxL := 3) (ret := (some .int)) (by decide) rfl ?_
  intro p e s m args below meth c s₁ B hml hv
  obtain ⟨rfl, ⟨sv, ai, wr, dg, ⟨aa, ro, rv, hP, hrv⟩, hsv, hke, hln, hnb2, hnb⟩, hK, hI⟩ := hv
  have hx := B.exec
  have hb := B.bytes
  have hr := B.returns
  have hts := atoms_spec (ws := wsX6_forget) B.pre
  have hown : s.vm.findClass RX6 = some m.cls := findClass_of_methodNamed B.named
  have hlocks := B.notSynchronized
  have hS : va_S (wF 6 g) s.heap s.heap [] := va_S.rf
  have hA : ∀ k, k < 6 → (wF 6 g) (g k) := wF_in
  have hl := lv_entry ([.ref ((g 0)), .int x]) (n := 3) (Nat.le_of_ble_eq_true rfl)
  rw [lg_entry_eq]
  generalize (lg_sl ([.ref ((g 0)), .int x]) ++ List.replicate (3 - (lg_sl ([.ref ((g 0)), .int x])).length) Slot.unset).toArray = ls at hl ⊢
  have hl : lv_has ls 3 [(0, .ref ((g 0))), (1, .int x)] := hl
  have hbN := hnb
  refine lv_aload_n hx hb dX6_forget_0 rfl (lv_at hl 0 rfl) ?_
  refine lv_iload_n hx hb dX6_forget_1 rfl (lv_at hl 1 rfl) ?_
  refine va_calli (va_runS (As := [.int x]) (rest := [.ref ((g 0))]) ⟨hx, hb, hml, hown, hts⟩ (c_X6_isReceiver l x) (va_cwS 1 hts gX6_forget_X6_isReceiver rfl rfl rfl (by decide +kernel) ⟨Nat.le_of_ble_eq_true rfl, Nat.le_of_ble_eq_true rfl⟩) ⟨wU_blind, fun U hU hW => ⟨rfl, trivial⟩⟩ rfl rfl hl.1 rfl (lv_room (Nat.le_of_ble_eq_true rfl)) dX6_forget_2 ⟨Nat.zero_le _, Nat.zero_le _⟩) hS (fun q _ h => h.elim) (fun q h => h.elim) (fun r_1 uu t H_1 locs_1 ht hvm hw hB hz1 hk1 hS => ?_)
  have hP := hP.same hk1
  obtain rfl : r_1 = (bI (inB x 0 2)) := hw
  refine lv_if_eq (tgt := 12) hx hb dX6_forget_5 (by decide) (fun c_2 => ?_) (fun c_2 => ?_)
  · refine lv_iconst (v := 1) hx hb dX6_forget_12 (by decide) ?_
    refine va_calli (va_runV (As := [.int 1]) (rest := []) ⟨hx, hb, hml, hown, hts⟩ (c_X6_holds l E g (mdE nb va se rv) th aa sv ke tx ln ro ai wr dg 1) (cwV 1 hts gX6_forget_X6_holds rfl rfl rfl (by decide +kernel) ⟨Nat.le_of_ble_eq_true rfl, Nat.le_of_ble_eq_true rfl⟩) ⟨wS.blind, (w_recv hK hP 0 (by decide) rfl (ci := 6) rfl), fun U hU hW => wS.go hP hK hI hU hW⟩ rfl rfl hl.1 rfl (lv_room (Nat.le_of_ble_eq_true rfl)) dX6_forget_13 ⟨Nat.zero_le _, Nat.zero_le _⟩) hS (fun q _ h => h) (fun q h => h) (fun r_3 uu t H_3 locs_3 ht hvm hw hB hz1 hk1 hS => ?_)
    rw [ht] at hB
    have hP : wP E 6 g (moF E g 1 (mdE nb va se rv) aa sv ke tx ln ro ai wr dg) H_3 := hB
    obtain rfl : r_3 = 0 := hw
    refine lv_if_ne (tgt := 21) hx hb dX6_forget_16 (by decide) (fun c_4 => ?_) (fun c_4 => ?_)
    · exact absurd rfl c_4
    · refine lv_iconst (v := 0) hx hb dX6_forget_19 (by decide) ?_
      exact W.iret (v := 0) hx hb hr (fun t ht hW => ⟨⟨_, (), rfl, rfl, (by show MOB E g 1 ln tx nb va se rc ke hs (t.heap); rw [ht]; exact ⟨sv, _, _, _, ⟨_, _, _, hP, hrv⟩, hsv, hke, hln, hnb2, hnb⟩)⟩, hS.F ht⟩) hS.2.2 dX6_forget_20
  · rw [hB1] at c_2; exact absurd rfl c_2
set_option maxHeartbeats 4000000 in
set_option maxRecDepth 100000 in
theorem c_X6_send_ok (l : Launch) (E : wE) (g : Nat → Nat) (th : Int32) (ln : Nat) (tx : Nat → Int32) (nb : Nat) (va : Nat → Int32) (se : Int32) (rc : Nat → MR) (ke : Nat) (hs : Nat → MS) (k0 : Nat) (hk0 : k0 < 10000) : Met l yX6_send wsX6_send ({ frames := 5, cells := 0, slots := 0, locals := 116 }) (va_Pc [.ref ((g 0)), .int (nI k0)] (wS E 6 g (MOB E g th ln tx nb va se rc ke hs))) (va_Qi (fun (r : Int32) (_ : Unit) => r = sumM (mskM nb k0) rc 3) (fun _ t => MOB E g 0 ln tx nb va (se + 1) (mapQ (gotM (mskM nb k0)) rc 3) (kpK ke) (pushM ke hs (nb, va, se, rc)) (t.heap)) (wF 6 g)) 0 0 (wF 6 g) := by
  refine Met.ofW (cc := cX6_send) (maxL := 2) (ret := (some .int)) (by decide) rfl ?_
  intro p e s m args below meth c s₁ B hml hv
  obtain ⟨rfl, ⟨sv, ai, wr, dg, ⟨aa, ro, rv, hP, hrv⟩, hsv, hke, hln, hnb2, hnb⟩, hK, hI⟩ := hv
  have hx := B.exec
  have hb := B.bytes
  have hr := B.returns
  have hts := atoms_spec (ws := wsX6_send) B.pre
  have hown : s.vm.findClass RX6 = some m.cls := findClass_of_methodNamed B.named
  have hlocks := B.notSynchronized
  have hS : va_S (wF 6 g) s.heap s.heap [] := va_S.rf
  have hA : ∀ k, k < 6 → (wF 6 g) (g k) := wF_in
  have hl := lv_entry ([.ref ((g 0)), .int (nI k0)]) (n := 2) (Nat.le_of_ble_eq_true rfl)
  rw [lg_entry_eq]
  generalize (lg_sl ([.ref ((g 0)), .int (nI k0)]) ++ List.replicate (2 - (lg_sl ([.ref ((g 0)), .int (nI k0)])).length) Slot.unset).toArray = ls at hl ⊢
  have hl : lv_has ls 2 [(0, .ref ((g 0))), (1, .int (nI k0))] := hl
  have hbN := hnb
  have hB1 : inB (nI k0) 0 9999 = true := inB_t (n := k0) (a := 0) (b := 9999) rfl rfl rfl (by omega) (by omega) (by omega)
  refine lv_aload_n hx hb dX6_send_0 rfl (lv_at hl 0 rfl) ?_
  refine lv_iload_n hx hb dX6_send_1 rfl (lv_at hl 1 rfl) ?_
  refine va_calli (va_runS (As := [.int (nI k0)]) (rest := [.ref ((g 0))]) ⟨hx, hb, hml, hown, hts⟩ (c_X6_isMix l (nI k0)) (va_cwS 1 hts gX6_send_X6_isMix rfl rfl rfl (by decide +kernel) ⟨Nat.le_of_ble_eq_true rfl, Nat.le_of_ble_eq_true rfl⟩) ⟨wU_blind, fun U hU hW => ⟨rfl, trivial⟩⟩ rfl rfl hl.1 rfl (lv_room (Nat.le_of_ble_eq_true rfl)) dX6_send_2 ⟨Nat.zero_le _, Nat.zero_le _⟩) hS (fun q _ h => h.elim) (fun q h => h.elim) (fun r_1 uu t H_1 locs_1 ht hvm hw hB hz1 hk1 hS => ?_)
  have hP := hP.same hk1
  obtain rfl : r_1 = (bI (inB (nI k0) 0 9999)) := hw
  refine lv_if_eq (tgt := 12) hx hb dX6_send_5 (by decide) (fun c_2 => ?_) (fun c_2 => ?_)
  · rw [hB1] at c_2; exact absurd c_2 (by decide)
  · refine lv_iconst (v := 0) hx hb dX6_send_8 (by decide) ?_
    refine lv_goto (tgt := 13) hx hb dX6_send_9 (by decide) ?_
    refine va_calli (va_runV (As := [.int 0]) (rest := []) ⟨hx, hb, hml, hown, hts⟩ (c_X6_holds l E g (mdE nb va se rv) th aa sv ke tx ln ro ai wr dg 0) (cwV 1 hts gX6_send_X6_holds rfl rfl rfl (by decide +kernel) ⟨Nat.le_of_ble_eq_true rfl, Nat.le_of_ble_eq_true rfl⟩) ⟨wS.blind, (w_recv hK hP 0 (by decide) rfl (ci := 6) rfl), fun U hU hW => wS.go hP hK hI hU hW⟩ rfl rfl hl.1 rfl (lv_room (Nat.le_of_ble_eq_true rfl)) dX6_send_13 ⟨Nat.zero_le _, Nat.zero_le _⟩) hS (fun q _ h => h) (fun q h => h) (fun r_3 uu t H_3 locs_3 ht hvm hw hB hz1 hk1 hS => ?_)
    rw [ht] at hB
    have hP : wP E 6 g (moF E g 0 (mdE nb va se rv) aa sv ke tx ln ro ai wr dg) H_3 := hB
    obtain rfl : r_3 = 1 := hw
    refine lv_if_ne (tgt := 21) hx hb dX6_send_16 (by decide) (fun c_4 => ?_) (fun c_4 => ?_)
    · refine lv_aload_n hx hb dX6_send_21 rfl (lv_at hl 0 rfl) ?_
      refine va_callv (va_runV (As := []) (rest := []) ⟨hx, hb, hml, hown, hts⟩ (c_X6_save l E g (mdE nb va se rv) 0 aa sv ke tx ln ro ai wr dg hke) (cwV 0 hts gX6_send_X6_save rfl rfl rfl (by decide +kernel) ⟨Nat.le_of_ble_eq_true rfl, Nat.le_of_ble_eq_true rfl⟩) ⟨wS.blind, (w_recv hK hP 0 (by decide) rfl (ci := 6) rfl), fun U hU hW => wS.go hP hK hI hU hW⟩ rfl rfl hl.1 rfl (lv_room (Nat.le_of_ble_eq_true rfl)) dX6_send_22 ⟨Nat.zero_le _, Nat.zero_le _⟩) hS (fun q _ h => h) (fun q h => h) (fun uu t H_5 locs_5 ht hvm hw hB hz1 hk1 hS => ?_)
      rw [ht] at hB
      obtain ⟨sv_5, hP, hs1_5, hs2_5⟩ := hB
      rw [kpK_eq hke] at hP
      have hP : wP E 6 g (moF E g 0 (mdE nb va se rv) aa sv_5 (kpK ke) tx ln ro ai wr dg) H_5 := hP
      have hsv_5 : svP (pushM ke hs (nb, va, se, rc)) (kpK ke) sv_5 := svP_push hke hsv ⟨rv, fun _ _ => rfl, hrv, hnb2, hnb⟩ hs1_5 hs2_5
      refine lv_aload_n hx hb dX6_send_25 rfl (lv_at hl 0 rfl) ?_
      refine lv_iload_n hx hb dX6_send_26 rfl (lv_at hl 1 rfl) ?_
      refine va_calli (va_runV (As := [.int (nI k0)]) (rest := []) ⟨hx, hb, hml, hown, hts⟩ (c_X6_sends l E g 0 sv_5 (kpK ke) tx ln ai wr dg nb va se rc k0 (by omega) hnb2 hnb) (cwV 1 hts gX6_send_X6_sends rfl rfl rfl (by decide +kernel) ⟨Nat.le_of_ble_eq_true rfl, Nat.le_of_ble_eq_true rfl⟩) ⟨wS.blind, (w_recv hK hP 0 (by decide) rfl (ci := 6) rfl), fun U hU hW => wS.go ⟨_, _, _, hP, hrv⟩ hK hI hU hW⟩ rfl rfl hl.1 rfl (lv_room (Nat.le_of_ble_eq_true rfl)) dX6_send_27 ⟨Nat.zero_le _, Nat.zero_le _⟩) hS (fun q _ h => h) (fun q h => h) (fun r_6 uu t H_6 locs_6 ht hvm hw hB hz1 hk1 hS => ?_)
      rw [ht] at hB
      obtain ⟨aa_6, ro_6, rv_6, hP, hrv_6⟩ := hB
      have hP : wP E 6 g (moF E g 0 (mdE nb va (se + 1) rv_6) aa_6 sv_5 (kpK ke) tx ln ro_6 ai wr dg) H_6 := hP
      obtain rfl : r_6 = (sumM (mskM nb k0) rc 3) := hw
      exact W.iret (v := (sumM (mskM nb k0) rc 3)) hx hb hr (fun t ht hW => ⟨⟨_, (), rfl, rfl, (by show MOB E g 0 ln tx nb va (se + 1) (mapQ (gotM (mskM nb k0)) rc 3) (kpK ke) (pushM ke hs (nb, va, se, rc)) (t.heap); rw [ht]; exact ⟨sv_5, _, _, _, ⟨_, _, _, hP, hrv_6⟩, hsv_5, (kpK_le hke), hln, hnb2, hnb⟩)⟩, hS.F ht⟩) hS.2.2 dX6_send_30
    · exact absurd c_4 (by decide)
set_option maxHeartbeats 4000000 in
set_option maxRecDepth 100000 in
theorem c_X6_send_no (l : Launch) (E : wE) (g : Nat → Nat) (th : Int32) (ln : Nat) (tx : Nat → Int32) (nb : Nat) (va : Nat → Int32) (se : Int32) (rc : Nat → MR) (ke : Nat) (hs : Nat → MS) (x : Int32) (hB1 : inB x 0 9999 = false) : Met l yX6_send wsX6_send ({ frames := 5, cells := 0, slots := 0, locals := 116 }) (va_Pc [.ref ((g 0)), .int x] (wS E 6 g (MOB E g th ln tx nb va se rc ke hs))) (va_Qi (fun (r : Int32) (_ : Unit) => r = 0) (fun _ t => MOB E g 1 ln tx nb va se rc ke hs (t.heap)) (wF 6 g)) 0 0 (wF 6 g) := by
  refine Met.ofW (cc := cX6_send) (maxL := 2) (ret := (some .int)) (by decide) rfl ?_
  intro p e s m args below meth c s₁ B hml hv
  obtain ⟨rfl, ⟨sv, ai, wr, dg, ⟨aa, ro, rv, hP, hrv⟩, hsv, hke, hln, hnb2, hnb⟩, hK, hI⟩ := hv
  have hx := B.exec
  have hb := B.bytes
  have hr := B.returns
  have hts := atoms_spec (ws := wsX6_send) B.pre
  have hown : s.vm.findClass RX6 = some m.cls := findClass_of_methodNamed B.named
  have hlocks := B.notSynchronized
  have hS : va_S (wF 6 g) s.heap s.heap [] := va_S.rf
  have hA : ∀ k, k < 6 → (wF 6 g) (g k) := wF_in
  have hl := lv_entry ([.ref ((g 0)), .int x]) (n := 2) (Nat.le_of_ble_eq_true rfl)
  rw [lg_entry_eq]
  generalize (lg_sl ([.ref ((g 0)), .int x]) ++ List.replicate (2 - (lg_sl ([.ref ((g 0)), .int x])).length) Slot.unset).toArray = ls at hl ⊢
  have hl : lv_has ls 2 [(0, .ref ((g 0))), (1, .int x)] := hl
  have hbN := hnb
  refine lv_aload_n hx hb dX6_send_0 rfl (lv_at hl 0 rfl) ?_
  refine lv_iload_n hx hb dX6_send_1 rfl (lv_at hl 1 rfl) ?_
  refine va_calli (va_runS (As := [.int x]) (rest := [.ref ((g 0))]) ⟨hx, hb, hml, hown, hts⟩ (c_X6_isMix l x) (va_cwS 1 hts gX6_send_X6_isMix rfl rfl rfl (by decide +kernel) ⟨Nat.le_of_ble_eq_true rfl, Nat.le_of_ble_eq_true rfl⟩) ⟨wU_blind, fun U hU hW => ⟨rfl, trivial⟩⟩ rfl rfl hl.1 rfl (lv_room (Nat.le_of_ble_eq_true rfl)) dX6_send_2 ⟨Nat.zero_le _, Nat.zero_le _⟩) hS (fun q _ h => h.elim) (fun q h => h.elim) (fun r_1 uu t H_1 locs_1 ht hvm hw hB hz1 hk1 hS => ?_)
  have hP := hP.same hk1
  obtain rfl : r_1 = (bI (inB x 0 9999)) := hw
  refine lv_if_eq (tgt := 12) hx hb dX6_send_5 (by decide) (fun c_2 => ?_) (fun c_2 => ?_)
  · refine lv_iconst (v := 1) hx hb dX6_send_12 (by decide) ?_
    refine va_calli (va_runV (As := [.int 1]) (rest := []) ⟨hx, hb, hml, hown, hts⟩ (c_X6_holds l E g (mdE nb va se rv) th aa sv ke tx ln ro ai wr dg 1) (cwV 1 hts gX6_send_X6_holds rfl rfl rfl (by decide +kernel) ⟨Nat.le_of_ble_eq_true rfl, Nat.le_of_ble_eq_true rfl⟩) ⟨wS.blind, (w_recv hK hP 0 (by decide) rfl (ci := 6) rfl), fun U hU hW => wS.go hP hK hI hU hW⟩ rfl rfl hl.1 rfl (lv_room (Nat.le_of_ble_eq_true rfl)) dX6_send_13 ⟨Nat.zero_le _, Nat.zero_le _⟩) hS (fun q _ h => h) (fun q h => h) (fun r_3 uu t H_3 locs_3 ht hvm hw hB hz1 hk1 hS => ?_)
    rw [ht] at hB
    have hP : wP E 6 g (moF E g 1 (mdE nb va se rv) aa sv ke tx ln ro ai wr dg) H_3 := hB
    obtain rfl : r_3 = 0 := hw
    refine lv_if_ne (tgt := 21) hx hb dX6_send_16 (by decide) (fun c_4 => ?_) (fun c_4 => ?_)
    · exact absurd rfl c_4
    · refine lv_iconst (v := 0) hx hb dX6_send_19 (by decide) ?_
      exact W.iret (v := 0) hx hb hr (fun t ht hW => ⟨⟨_, (), rfl, rfl, (by show MOB E g 1 ln tx nb va se rc ke hs (t.heap); rw [ht]; exact ⟨sv, _, _, _, ⟨_, _, _, hP, hrv⟩, hsv, hke, hln, hnb2, hnb⟩)⟩, hS.F ht⟩) hS.2.2 dX6_send_20
  · rw [hB1] at c_2; exact absurd rfl c_2
set_option maxHeartbeats 4000000 in
set_option maxRecDepth 100000 in
theorem c_X6_eliminate_ok (l : Launch) (E : wE) (g : Nat → Nat) (th : Int32) (ln : Nat) (tx : Nat → Int32) (nb : Nat) (va : Nat → Int32) (se : Int32) (rc : Nat → MR) (ke : Nat) (hs : Nat → MS) (u : Nat) (hu3 : u < 3) : Met l yX6_eliminate wsX6_eliminate ({ frames := 4, cells := 0, slots := 0, locals := 94 }) (va_Pc [.ref ((g 0)), .int (nI u)] (wS E 6 g (MOB E g th ln tx nb va se rc ke hs))) (va_Qi (fun (r : Int32) (_ : Unit) => r = nI (pc (elmQ nb (rc u).2).1) - nI (pc (rc u).2.1)) (fun _ t => MOB E g 0 ln tx nb va se (va_up rc u ((rc u).1, (elmQ nb (rc u).2))) (kpK ke) (pushM ke hs (nb, va, se, rc)) (t.heap)) (wF 6 g)) 0 0 (wF 6 g) := by
  refine Met.ofW (cc := cX6_eliminate) (maxL := 2) (ret := (some .int)) (by decide) rfl ?_
  intro p e s m args below meth c s₁ B hml hv
  obtain ⟨rfl, ⟨sv, ai, wr, dg, ⟨aa, ro, rv, hP, hrv⟩, hsv, hke, hln, hnb2, hnb⟩, hK, hI⟩ := hv
  have hx := B.exec
  have hb := B.bytes
  have hr := B.returns
  have hts := atoms_spec (ws := wsX6_eliminate) B.pre
  have hown : s.vm.findClass RX6 = some m.cls := findClass_of_methodNamed B.named
  have hlocks := B.notSynchronized
  have hS : va_S (wF 6 g) s.heap s.heap [] := va_S.rf
  have hA : ∀ k, k < 6 → (wF 6 g) (g k) := wF_in
  have hl := lv_entry ([.ref ((g 0)), .int (nI u)]) (n := 2) (Nat.le_of_ble_eq_true rfl)
  rw [lg_entry_eq]
  generalize (lg_sl ([.ref ((g 0)), .int (nI u)]) ++ List.replicate (2 - (lg_sl ([.ref ((g 0)), .int (nI u)])).length) Slot.unset).toArray = ls at hl ⊢
  have hl : lv_has ls 2 [(0, .ref ((g 0))), (1, .int (nI u))] := hl
  have hbN := hnb
  have hB1 : inB (nI u) 0 2 = true := inB_t (n := u) (a := 0) (b := 2) rfl rfl rfl (by omega) (by omega) (by omega)
  refine lv_aload_n hx hb dX6_eliminate_0 rfl (lv_at hl 0 rfl) ?_
  refine lv_iload_n hx hb dX6_eliminate_1 rfl (lv_at hl 1 rfl) ?_
  refine va_calli (va_runS (As := [.int (nI u)]) (rest := [.ref ((g 0))]) ⟨hx, hb, hml, hown, hts⟩ (c_X6_isReceiver l (nI u)) (va_cwS 1 hts gX6_eliminate_X6_isReceiver rfl rfl rfl (by decide +kernel) ⟨Nat.le_of_ble_eq_true rfl, Nat.le_of_ble_eq_true rfl⟩) ⟨wU_blind, fun U hU hW => ⟨rfl, trivial⟩⟩ rfl rfl hl.1 rfl (lv_room (Nat.le_of_ble_eq_true rfl)) dX6_eliminate_2 ⟨Nat.zero_le _, Nat.zero_le _⟩) hS (fun q _ h => h.elim) (fun q h => h.elim) (fun r_1 uu t H_1 locs_1 ht hvm hw hB hz1 hk1 hS => ?_)
  have hP := hP.same hk1
  obtain rfl : r_1 = (bI (inB (nI u) 0 2)) := hw
  refine lv_if_eq (tgt := 12) hx hb dX6_eliminate_5 (by decide) (fun c_2 => ?_) (fun c_2 => ?_)
  · rw [hB1] at c_2; exact absurd c_2 (by decide)
  · refine lv_iconst (v := 0) hx hb dX6_eliminate_8 (by decide) ?_
    refine lv_goto (tgt := 13) hx hb dX6_eliminate_9 (by decide) ?_
    refine va_calli (va_runV (As := [.int 0]) (rest := []) ⟨hx, hb, hml, hown, hts⟩ (c_X6_holds l E g (mdE nb va se rv) th aa sv ke tx ln ro ai wr dg 0) (cwV 1 hts gX6_eliminate_X6_holds rfl rfl rfl (by decide +kernel) ⟨Nat.le_of_ble_eq_true rfl, Nat.le_of_ble_eq_true rfl⟩) ⟨wS.blind, (w_recv hK hP 0 (by decide) rfl (ci := 6) rfl), fun U hU hW => wS.go hP hK hI hU hW⟩ rfl rfl hl.1 rfl (lv_room (Nat.le_of_ble_eq_true rfl)) dX6_eliminate_13 ⟨Nat.zero_le _, Nat.zero_le _⟩) hS (fun q _ h => h) (fun q h => h) (fun r_3 uu t H_3 locs_3 ht hvm hw hB hz1 hk1 hS => ?_)
    rw [ht] at hB
    have hP : wP E 6 g (moF E g 0 (mdE nb va se rv) aa sv ke tx ln ro ai wr dg) H_3 := hB
    obtain rfl : r_3 = 1 := hw
    refine lv_if_ne (tgt := 21) hx hb dX6_eliminate_16 (by decide) (fun c_4 => ?_) (fun c_4 => ?_)
    · refine lv_aload_n hx hb dX6_eliminate_21 rfl (lv_at hl 0 rfl) ?_
      refine va_callv (va_runV (As := []) (rest := []) ⟨hx, hb, hml, hown, hts⟩ (c_X6_save l E g (mdE nb va se rv) 0 aa sv ke tx ln ro ai wr dg hke) (cwV 0 hts gX6_eliminate_X6_save rfl rfl rfl (by decide +kernel) ⟨Nat.le_of_ble_eq_true rfl, Nat.le_of_ble_eq_true rfl⟩) ⟨wS.blind, (w_recv hK hP 0 (by decide) rfl (ci := 6) rfl), fun U hU hW => wS.go hP hK hI hU hW⟩ rfl rfl hl.1 rfl (lv_room (Nat.le_of_ble_eq_true rfl)) dX6_eliminate_22 ⟨Nat.zero_le _, Nat.zero_le _⟩) hS (fun q _ h => h) (fun q h => h) (fun uu t H_5 locs_5 ht hvm hw hB hz1 hk1 hS => ?_)
      rw [ht] at hB
      obtain ⟨sv_5, hP, hs1_5, hs2_5⟩ := hB
      rw [kpK_eq hke] at hP
      have hP : wP E 6 g (moF E g 0 (mdE nb va se rv) aa sv_5 (kpK ke) tx ln ro ai wr dg) H_5 := hP
      have hsv_5 : svP (pushM ke hs (nb, va, se, rc)) (kpK ke) sv_5 := svP_push hke hsv ⟨rv, fun _ _ => rfl, hrv, hnb2, hnb⟩ hs1_5 hs2_5
      have hu3 : u < 3 := by omega
      have hri_6 := hrv u hu3
      obtain ⟨w_6, hv_6, hw_6, hok_6⟩ := hri_6
      rw [show rv = va_up rv u (rvE ((rc u).1) ((rc u).2.1) ((rc u).2.2.1) ((rc u).2.2.2.1) ((rc u).2.2.2.2.1) ((rc u).2.2.2.2.2.length) w_6) from by rw [← hv_6, va_up_id]] at hP
      have hkk_6 := hok_6.2.1
      have hll_6 := hok_6.1
      refine lv_aload_n hx hb dX6_eliminate_25 rfl (lv_at hl 0 rfl) ?_
      refine lv_iload_n hx hb dX6_eliminate_26 rfl (lv_at hl 1 rfl) ?_
      refine va_calli (va_runV (As := [.int (nI u)]) (rest := []) ⟨hx, hb, hml, hown, hts⟩ (c_X6_eliminates l E g 0 aa sv_5 (kpK ke) tx ln ro ai wr dg nb va se rv u ((rc u).1) ((rc u).2.1) ((rc u).2.2.1) ((rc u).2.2.2.1) ((rc u).2.2.2.2.1) ((rc u).2.2.2.2.2) hu3 hnb) (cwV 1 hts gX6_eliminate_X6_eliminates rfl rfl rfl (by decide +kernel) ⟨Nat.le_of_ble_eq_true rfl, Nat.le_of_ble_eq_true rfl⟩) ⟨wS.blind, (w_recv hK hP 0 (by decide) rfl (ci := 6) rfl), fun U hU hW => wS.go ⟨_, hP, hw_6, hok_6⟩ hK hI hU hW⟩ rfl rfl hl.1 rfl (lv_room (Nat.le_of_ble_eq_true rfl)) dX6_eliminate_27 ⟨Nat.zero_le _, Nat.zero_le _⟩) hS (fun q _ h => h) (fun q h => h) (fun r_7 uu t H_7 locs_7 ht hvm hw hB hz1 hk1 hS => ?_)
      rw [ht] at hB
      obtain ⟨ro_7, w_7, hP, hw_7, hok_7⟩ := hB
      have hP : wP E 6 g (moF E g 0 (mdE nb va se (va_up rv u (rvE ((rc u).1) ((elM nb (alnM (redW ((rc u).2.2.2.2.2))) (((rc u).2.1), ((rc u).2.2.2.1), ((rc u).2.2.2.2.2))).1) ((rc u).2.2.1) ((elM nb (alnM (redW ((rc u).2.2.2.2.2))) (((rc u).2.1), ((rc u).2.2.2.1), ((rc u).2.2.2.2.2))).2.1) ((rc u).2.2.2.2.1) (((elM nb (alnM (redW ((rc u).2.2.2.2.2))) (((rc u).2.1), ((rc u).2.2.2.1), ((rc u).2.2.2.2.2))).2.2).length) w_7))) aa sv_5 (kpK ke) tx ln ro_7 ai wr dg) H_7 := hP
      have hkk_7 := hok_7.2.1
      obtain rfl : r_7 = (nI (pc (elM nb (alnM (redW ((rc u).2.2.2.2.2))) (((rc u).2.1), ((rc u).2.2.2.1), ((rc u).2.2.2.2.2))).1) - nI (pc ((rc u).2.1))) := hw
      have hrz_8 : ∀ j9, j9 < 3 → rvP ((va_up rc u ((rc u).1, (elM nb (alnM (redW ((rc u).2.2.2.2.2))) (((rc u).2.1), ((rc u).2.2.2.1), ((rc u).2.2.2.2.2))).1, (rc u).2.2.1, (elM nb (alnM (redW ((rc u).2.2.2.2.2))) (((rc u).2.1), ((rc u).2.2.2.1), ((rc u).2.2.2.2.2))).2.1, (rc u).2.2.2.2.1, (elM nb (alnM (redW ((rc u).2.2.2.2.2))) (((rc u).2.1), ((rc u).2.2.2.1), ((rc u).2.2.2.2.2))).2.2)) j9) ((va_up rv u (rvE ((rc u).1) ((elM nb (alnM (redW ((rc u).2.2.2.2.2))) (((rc u).2.1), ((rc u).2.2.2.1), ((rc u).2.2.2.2.2))).1) ((rc u).2.2.1) ((elM nb (alnM (redW ((rc u).2.2.2.2.2))) (((rc u).2.1), ((rc u).2.2.2.1), ((rc u).2.2.2.2.2))).2.1) ((rc u).2.2.2.2.1) (((elM nb (alnM (redW ((rc u).2.2.2.2.2))) (((rc u).2.1), ((rc u).2.2.2.1), ((rc u).2.2.2.2.2))).2.2).length) w_7)) j9) := rvP_up hrv ⟨w_7, rfl, hw_7, hok_7⟩
      exact W.iret (v := (nI (pc (elM nb (alnM (redW ((rc u).2.2.2.2.2))) (((rc u).2.1), ((rc u).2.2.2.1), ((rc u).2.2.2.2.2))).1) - nI (pc ((rc u).2.1)))) hx hb hr (fun t ht hW => ⟨⟨_, (), rfl, rfl, (by show MOB E g 0 ln tx nb va se (va_up rc u ((rc u).1, (elmQ nb (rc u).2))) (kpK ke) (pushM ke hs (nb, va, se, rc)) (t.heap); rw [ht]; exact ⟨sv_5, _, _, _, ⟨_, _, _, hP, hrz_8⟩, hsv_5, (kpK_le hke), hln, hnb2, hnb⟩)⟩, hS.F ht⟩) hS.2.2 dX6_eliminate_30
    · exact absurd c_4 (by decide)
set_option maxHeartbeats 4000000 in
set_option maxRecDepth 100000 in
theorem c_X6_eliminate_no (l : Launch) (E : wE) (g : Nat → Nat) (th : Int32) (ln : Nat) (tx : Nat → Int32) (nb : Nat) (va : Nat → Int32) (se : Int32) (rc : Nat → MR) (ke : Nat) (hs : Nat → MS) (x : Int32) (hB1 : inB x 0 2 = false) : Met l yX6_eliminate wsX6_eliminate ({ frames := 4, cells := 0, slots := 0, locals := 94 }) (va_Pc [.ref ((g 0)), .int x] (wS E 6 g (MOB E g th ln tx nb va se rc ke hs))) (va_Qi (fun (r : Int32) (_ : Unit) => r = 0) (fun _ t => MOB E g 1 ln tx nb va se rc ke hs (t.heap)) (wF 6 g)) 0 0 (wF 6 g) := by
  refine Met.ofW (cc := cX6_eliminate) (maxL := 2) (ret := (some .int)) (by decide) rfl ?_
  intro p e s m args below meth c s₁ B hml hv
  obtain ⟨rfl, ⟨sv, ai, wr, dg, ⟨aa, ro, rv, hP, hrv⟩, hsv, hke, hln, hnb2, hnb⟩, hK, hI⟩ := hv
  have hx := B.exec
  have hb := B.bytes
  have hr := B.returns
  have hts := atoms_spec (ws := wsX6_eliminate) B.pre
  have hown : s.vm.findClass RX6 = some m.cls := findClass_of_methodNamed B.named
  have hlocks := B.notSynchronized
  have hS : va_S (wF 6 g) s.heap s.heap [] := va_S.rf
  have hA : ∀ k, k < 6 → (wF 6 g) (g k) := wF_in
  have hl := lv_entry ([.ref ((g 0)), .int x]) (n := 2) (Nat.le_of_ble_eq_true rfl)
  rw [lg_entry_eq]
  generalize (lg_sl ([.ref ((g 0)), .int x]) ++ List.replicate (2 - (lg_sl ([.ref ((g 0)), .int x])).length) Slot.unset).toArray = ls at hl ⊢
  have hl : lv_has ls 2 [(0, .ref ((g 0))), (1, .int x)] := hl
  have hbN := hnb
  refine lv_aload_n hx hb dX6_eliminate_0 rfl (lv_at hl 0 rfl) ?_
  refine lv_iload_n hx hb dX6_eliminate_1 rfl (lv_at hl 1 rfl) ?_
  refine va_calli (va_runS (As := [.int x]) (rest := [.ref ((g 0))]) ⟨hx, hb, hml, hown, hts⟩ (c_X6_isReceiver l x) (va_cwS 1 hts gX6_eliminate_X6_isReceiver rfl rfl rfl (by decide +kernel) ⟨Nat.le_of_ble_eq_true rfl, Nat.le_of_ble_eq_true rfl⟩) ⟨wU_blind, fun U hU hW => ⟨rfl, trivial⟩⟩ rfl rfl hl.1 rfl (lv_room (Nat.le_of_ble_eq_true rfl)) dX6_eliminate_2 ⟨Nat.zero_le _, Nat.zero_le _⟩) hS (fun q _ h => h.elim) (fun q h => h.elim) (fun r_1 uu t H_1 locs_1 ht hvm hw hB hz1 hk1 hS => ?_)
  have hP := hP.same hk1
  obtain rfl : r_1 = (bI (inB x 0 2)) := hw
  refine lv_if_eq (tgt := 12) hx hb dX6_eliminate_5 (by decide) (fun c_2 => ?_) (fun c_2 => ?_)
  · refine lv_iconst (v := 1) hx hb dX6_eliminate_12 (by decide) ?_
    refine va_calli (va_runV (As := [.int 1]) (rest := []) ⟨hx, hb, hml, hown, hts⟩ (c_X6_holds l E g (mdE nb va se rv) th aa sv ke tx ln ro ai wr dg 1) (cwV 1 hts gX6_eliminate_X6_holds rfl rfl rfl (by decide +kernel) ⟨Nat.le_of_ble_eq_true rfl, Nat.le_of_ble_eq_true rfl⟩) ⟨wS.blind, (w_recv hK hP 0 (by decide) rfl (ci := 6) rfl), fun U hU hW => wS.go hP hK hI hU hW⟩ rfl rfl hl.1 rfl (lv_room (Nat.le_of_ble_eq_true rfl)) dX6_eliminate_13 ⟨Nat.zero_le _, Nat.zero_le _⟩) hS (fun q _ h => h) (fun q h => h) (fun r_3 uu t H_3 locs_3 ht hvm hw hB hz1 hk1 hS => ?_)
    rw [ht] at hB
    have hP : wP E 6 g (moF E g 1 (mdE nb va se rv) aa sv ke tx ln ro ai wr dg) H_3 := hB
    obtain rfl : r_3 = 0 := hw
    refine lv_if_ne (tgt := 21) hx hb dX6_eliminate_16 (by decide) (fun c_4 => ?_) (fun c_4 => ?_)
    · exact absurd rfl c_4
    · refine lv_iconst (v := 0) hx hb dX6_eliminate_19 (by decide) ?_
      exact W.iret (v := 0) hx hb hr (fun t ht hW => ⟨⟨_, (), rfl, rfl, (by show MOB E g 1 ln tx nb va se rc ke hs (t.heap); rw [ht]; exact ⟨sv, _, _, _, ⟨_, _, _, hP, hrv⟩, hsv, hke, hln, hnb2, hnb⟩)⟩, hS.F ht⟩) hS.2.2 dX6_eliminate_20
  · rw [hB1] at c_2; exact absurd rfl c_2
set_option maxHeartbeats 4000000 in
set_option maxRecDepth 100000 in
theorem c_X6_append_ok (l : Launch) (E : wE) (g : Nat → Nat) (th : Int32) (ln : Nat) (tx : Nat → Int32) (nb : Nat) (va : Nat → Int32) (se : Int32) (rc : Nat → MR) (ke : Nat) (hs : Nat → MS) (x : Int32) (hB1 : inB x 33 126 = true) (h60 : ln < 60) : Met l yX6_append wsX6_append ({ frames := 1, cells := 0, slots := 0, locals := 22 }) (va_Pc [.ref ((g 0)), .int x] (wS E 6 g (MOB E g th ln tx nb va se rc ke hs))) (va_Qi (fun (r : Int32) (_ : Unit) => r = nI (ln + 1)) (fun _ t => MOB E g 0 (ln + 1) (upd tx ln x) nb va se rc ke hs (t.heap)) (wF 6 g)) 0 0 (wF 6 g) := by
  refine Met.ofW (cc := cX6_append) (maxL := 2) (ret := (some .int)) (by decide) rfl ?_
  intro p e s m args below meth c s₁ B hml hv
  obtain ⟨rfl, ⟨sv, ai, wr, dg, ⟨aa, ro, rv, hP, hrv⟩, hsv, hke, hln, hnb2, hnb⟩, hK, hI⟩ := hv
  have hx := B.exec
  have hb := B.bytes
  have hr := B.returns
  have hts := atoms_spec (ws := wsX6_append) B.pre
  have hown : s.vm.findClass RX6 = some m.cls := findClass_of_methodNamed B.named
  have hlocks := B.notSynchronized
  have hS : va_S (wF 6 g) s.heap s.heap [] := va_S.rf
  have hin6 : ∀ w ∈ wsX60, w ∈ wsX6_append := by decide +kernel
  have hA : ∀ k, k < 6 → (wF 6 g) (g k) := wF_in
  have hl := lv_entry ([.ref ((g 0)), .int x]) (n := 2) (Nat.le_of_ble_eq_true rfl)
  rw [lg_entry_eq]
  generalize (lg_sl ([.ref ((g 0)), .int x]) ++ List.replicate (2 - (lg_sl ([.ref ((g 0)), .int x])).length) Slot.unset).toArray = ls at hl ⊢
  have hl : lv_has ls 2 [(0, .ref ((g 0))), (1, .int x)] := hl
  have hbN := hnb
  refine lv_aload_n hx hb dX6_append_0 rfl (lv_at hl 0 rfl) ?_
  refine lv_iload_n hx hb dX6_append_1 rfl (lv_at hl 1 rfl) ?_
  refine lv_bipush (v := 33) hx hb dX6_append_2 (by decide) ?_
  refine lv_bipush (v := 126) hx hb dX6_append_4 (by decide) ?_
  refine va_calli (va_runS (As := [.int x, .int 33, .int 126]) (rest := [.ref ((g 0))]) ⟨hx, hb, hml, hown, hts⟩ (c_X6_in l x 33 126) (va_cwS 3 hts gX6_append_X6_in rfl rfl rfl (by decide +kernel) ⟨Nat.le_of_ble_eq_true rfl, Nat.le_of_ble_eq_true rfl⟩) ⟨wU_blind, fun U hU hW => ⟨rfl, trivial⟩⟩ rfl rfl hl.1 rfl (lv_room (Nat.le_of_ble_eq_true rfl)) dX6_append_6 ⟨Nat.zero_le _, Nat.zero_le _⟩) hS (fun q _ h => h.elim) (fun q h => h.elim) (fun r_1 uu t H_1 locs_1 ht hvm hw hB hz1 hk1 hS => ?_)
  have hP := hP.same hk1
  obtain rfl : r_1 = (bI (inB x 33 126)) := hw
  refine lv_if_ne (tgt := 16) hx hb dX6_append_9 (by decide) (fun c_2 => ?_) (fun c_2 => ?_)
  · refine lv_aload_n hx hb dX6_append_16 rfl (lv_at hl 0 rfl) ?_
    refine w_get (C := RX6) (T := TX6) (N := 11) (ci := 6) (v := .int (nI ln)) hx hb hts hin6 hown hK hP 0 (by decide) rfl rfl 6 (by decide) (hts (.fieldLink RX6 106 "MixedBlocksModel" "length" "I") (List.mem_of_getElem? (i := 1) rfl)) (fun _ h9 => h9) rfl dX6_append_17 ?_
    refine lv_bipush (v := 60) hx hb dX6_append_20 (by decide) ?_
    refine lv_icmp_ne (tgt := 29) hx hb dX6_append_22 (by decide) (fun c_3 => ?_) (fun c_3 => ?_)
    · have n_3 : ¬ (ln = 60) := fun z => c_3 ((nI_eq (a := ln) (b := 60) (by omega) (by omega)).mpr z)
      refine lv_iconst (v := 0) hx hb dX6_append_29 (by decide) ?_
      refine va_calli (va_runV (As := [.int 0]) (rest := []) ⟨hx, hb, hml, hown, hts⟩ (c_X6_holds l E g (mdE nb va se rv) th aa sv ke tx ln ro ai wr dg 0) (cwV 1 hts gX6_append_X6_holds rfl rfl rfl (by decide +kernel) ⟨Nat.le_of_ble_eq_true rfl, Nat.le_of_ble_eq_true rfl⟩) ⟨wS.blind, (w_recv hK hP 0 (by decide) rfl (ci := 6) rfl), fun U hU hW => wS.go hP hK hI hU hW⟩ rfl rfl hl.1 rfl (lv_room (Nat.le_of_ble_eq_true rfl)) dX6_append_30 ⟨Nat.zero_le _, Nat.zero_le _⟩) hS (fun q _ h => h) (fun q h => h) (fun r_4 uu t H_4 locs_4 ht hvm hw hB hz1 hk1 hS => ?_)
      rw [ht] at hB
      have hP : wP E 6 g (moF E g 0 (mdE nb va se rv) aa sv ke tx ln ro ai wr dg) H_4 := hB
      obtain rfl : r_4 = 1 := hw
      refine lv_if_ne (tgt := 38) hx hb dX6_append_33 (by decide) (fun c_5 => ?_) (fun c_5 => ?_)
      · refine lv_aload_n hx hb dX6_append_38 rfl (lv_at hl 0 rfl) ?_
        refine w_get (C := RX6) (T := TX6) (N := 11) (ci := 6) (v := .ref ((g 4))) hx hb hts hin6 hown hK hP 0 (by decide) rfl rfl 5 (by decide) (hts (.fieldLink RX6 19 "MixedBlocksModel" "text" "[I") (List.mem_of_getElem? (i := 2) rfl)) (fun _ h9 => h9) rfl dX6_append_39 ?_
        refine lv_aload_n hx hb dX6_append_42 rfl (lv_at hl 0 rfl) ?_
        refine w_get (C := RX6) (T := TX6) (N := 11) (ci := 6) (v := .int (nI ln)) hx hb hts hin6 hown hK hP 0 (by decide) rfl rfl 6 (by decide) (hts (.fieldLink RX6 106 "MixedBlocksModel" "length" "I") (List.mem_of_getElem? (i := 1) rfl)) (fun _ h9 => h9) rfl dX6_append_43 ?_
        refine lv_iload_n hx hb dX6_append_46 rfl (lv_at hl 1 rfl) ?_
        refine w_iast hx hb hK hP hI hA hS 4 (by decide) rfl (vp_in_nI (by omega) (by decide)) dX6_append_47 (moF E g 0 (mdE nb va se rv) aa sv ke (upd tx ln x) ln ro ai wr dg) (congrArg (fun z : Nat => (Sum.inl (E.2.1, 60, Sum.inl (upd tx z x)) : va_E)) (nI_clamp (by omega)).symm) mo_ne4 (fun H_6 locs_6 hP hS => ?_)
        refine lv_aload_n hx hb dX6_append_48 rfl (lv_at hl 0 rfl) ?_
        refine lv_dup hx hb dX6_append_49 rfl ?_
        refine w_get (C := RX6) (T := TX6) (N := 11) (ci := 6) (v := .int (nI ln)) hx hb hts hin6 hown hK hP 0 (by decide) rfl rfl 6 (by decide) (hts (.fieldLink RX6 106 "MixedBlocksModel" "length" "I") (List.mem_of_getElem? (i := 1) rfl)) (fun _ h9 => h9) rfl dX6_append_50 ?_
        refine lv_iconst (v := 1) hx hb dX6_append_53 (by decide) ?_
        refine lv_iadd hx hb dX6_append_54 ?_
        rw [show (nI ln) + 1 = nI (ln + 1) from nI_add ln 1]
        refine w_put (C := RX6) (T := TX6) (N := 11) (ci := 6) (v := .int (nI (ln + 1))) (ty := .int) hx hb hts hin6 tyX6 tyX6_ok nmX6 hown hK hP hI hA hS 0 (by decide) rfl rfl 6 (by decide) (hts (.fieldLink RX6 106 "MixedBlocksModel" "length" "I") (List.mem_of_getElem? (i := 1) rfl)) (fun _ h9 => h9) rfl (by decide +kernel) rfl rfl (Nat.le_of_ble_eq_true rfl) dX6_append_55 (moF E g 0 (mdE nb va se rv) aa sv ke (upd tx ln x) (ln + 1) ro ai wr dg) rfl mo_ne0 (fun H_7 locs_7 hP hS => ?_)
        refine lv_aload_n hx hb dX6_append_58 rfl (lv_at hl 0 rfl) ?_
        refine w_get (C := RX6) (T := TX6) (N := 11) (ci := 6) (v := .int (nI (ln + 1))) hx hb hts hin6 hown hK hP 0 (by decide) rfl rfl 6 (by decide) (hts (.fieldLink RX6 106 "MixedBlocksModel" "length" "I") (List.mem_of_getElem? (i := 1) rfl)) (fun _ h9 => h9) rfl dX6_append_59 ?_
        exact W.iret (v := (nI (ln + 1))) hx hb hr (fun t ht hW => ⟨⟨_, (), rfl, rfl, (by show MOB E g 0 (ln + 1) (upd tx ln x) nb va se rc ke hs (t.heap); rw [ht]; exact ⟨sv, _, _, _, ⟨_, _, _, hP, hrv⟩, hsv, hke, (by omega), hnb2, hnb⟩)⟩, hS.F ht⟩) hS.2.2 dX6_append_62
      · exact absurd c_5 (by decide)
    · have n_3 : ln = 60 := (nI_eq (a := ln) (b := 60) (by omega) (by omega)).mp c_3
      exfalso
      omega
  · rw [hB1] at c_2; exact absurd c_2 (by decide)
set_option maxHeartbeats 4000000 in
set_option maxRecDepth 100000 in
theorem c_X6_append_no1 (l : Launch) (E : wE) (g : Nat → Nat) (th : Int32) (ln : Nat) (tx : Nat → Int32) (nb : Nat) (va : Nat → Int32) (se : Int32) (rc : Nat → MR) (ke : Nat) (hs : Nat → MS) (x : Int32) (hB1 : inB x 33 126 = false) : Met l yX6_append wsX6_append ({ frames := 1, cells := 0, slots := 0, locals := 22 }) (va_Pc [.ref ((g 0)), .int x] (wS E 6 g (MOB E g th ln tx nb va se rc ke hs))) (va_Qi (fun (r : Int32) (_ : Unit) => r = 0) (fun _ t => MOB E g 1 ln tx nb va se rc ke hs (t.heap)) (wF 6 g)) 0 0 (wF 6 g) := by
  refine Met.ofW (cc := cX6_append) (maxL := 2) (ret := (some .int)) (by decide) rfl ?_
  intro p e s m args below meth c s₁ B hml hv
  obtain ⟨rfl, ⟨sv, ai, wr, dg, ⟨aa, ro, rv, hP, hrv⟩, hsv, hke, hln, hnb2, hnb⟩, hK, hI⟩ := hv
  have hx := B.exec
  have hb := B.bytes
  have hr := B.returns
  have hts := atoms_spec (ws := wsX6_append) B.pre
  have hown : s.vm.findClass RX6 = some m.cls := findClass_of_methodNamed B.named
  have hlocks := B.notSynchronized
  have hS : va_S (wF 6 g) s.heap s.heap [] := va_S.rf
  have hA : ∀ k, k < 6 → (wF 6 g) (g k) := wF_in
  have hl := lv_entry ([.ref ((g 0)), .int x]) (n := 2) (Nat.le_of_ble_eq_true rfl)
  rw [lg_entry_eq]
  generalize (lg_sl ([.ref ((g 0)), .int x]) ++ List.replicate (2 - (lg_sl ([.ref ((g 0)), .int x])).length) Slot.unset).toArray = ls at hl ⊢
  have hl : lv_has ls 2 [(0, .ref ((g 0))), (1, .int x)] := hl
  have hbN := hnb
  refine lv_aload_n hx hb dX6_append_0 rfl (lv_at hl 0 rfl) ?_
  refine lv_iload_n hx hb dX6_append_1 rfl (lv_at hl 1 rfl) ?_
  refine lv_bipush (v := 33) hx hb dX6_append_2 (by decide) ?_
  refine lv_bipush (v := 126) hx hb dX6_append_4 (by decide) ?_
  refine va_calli (va_runS (As := [.int x, .int 33, .int 126]) (rest := [.ref ((g 0))]) ⟨hx, hb, hml, hown, hts⟩ (c_X6_in l x 33 126) (va_cwS 3 hts gX6_append_X6_in rfl rfl rfl (by decide +kernel) ⟨Nat.le_of_ble_eq_true rfl, Nat.le_of_ble_eq_true rfl⟩) ⟨wU_blind, fun U hU hW => ⟨rfl, trivial⟩⟩ rfl rfl hl.1 rfl (lv_room (Nat.le_of_ble_eq_true rfl)) dX6_append_6 ⟨Nat.zero_le _, Nat.zero_le _⟩) hS (fun q _ h => h.elim) (fun q h => h.elim) (fun r_1 uu t H_1 locs_1 ht hvm hw hB hz1 hk1 hS => ?_)
  have hP := hP.same hk1
  obtain rfl : r_1 = (bI (inB x 33 126)) := hw
  refine lv_if_ne (tgt := 16) hx hb dX6_append_9 (by decide) (fun c_2 => ?_) (fun c_2 => ?_)
  · rw [hB1] at c_2; exact absurd rfl c_2
  · refine lv_iconst (v := 1) hx hb dX6_append_12 (by decide) ?_
    refine lv_goto (tgt := 30) hx hb dX6_append_13 (by decide) ?_
    refine va_calli (va_runV (As := [.int 1]) (rest := []) ⟨hx, hb, hml, hown, hts⟩ (c_X6_holds l E g (mdE nb va se rv) th aa sv ke tx ln ro ai wr dg 1) (cwV 1 hts gX6_append_X6_holds rfl rfl rfl (by decide +kernel) ⟨Nat.le_of_ble_eq_true rfl, Nat.le_of_ble_eq_true rfl⟩) ⟨wS.blind, (w_recv hK hP 0 (by decide) rfl (ci := 6) rfl), fun U hU hW => wS.go hP hK hI hU hW⟩ rfl rfl hl.1 rfl (lv_room (Nat.le_of_ble_eq_true rfl)) dX6_append_30 ⟨Nat.zero_le _, Nat.zero_le _⟩) hS (fun q _ h => h) (fun q h => h) (fun r_3 uu t H_3 locs_3 ht hvm hw hB hz1 hk1 hS => ?_)
    rw [ht] at hB
    have hP : wP E 6 g (moF E g 1 (mdE nb va se rv) aa sv ke tx ln ro ai wr dg) H_3 := hB
    obtain rfl : r_3 = 0 := hw
    refine lv_if_ne (tgt := 38) hx hb dX6_append_33 (by decide) (fun c_4 => ?_) (fun c_4 => ?_)
    · exact absurd rfl c_4
    · refine lv_iconst (v := 0) hx hb dX6_append_36 (by decide) ?_
      exact W.iret (v := 0) hx hb hr (fun t ht hW => ⟨⟨_, (), rfl, rfl, (by show MOB E g 1 ln tx nb va se rc ke hs (t.heap); rw [ht]; exact ⟨sv, _, _, _, ⟨_, _, _, hP, hrv⟩, hsv, hke, hln, hnb2, hnb⟩)⟩, hS.F ht⟩) hS.2.2 dX6_append_37
set_option maxHeartbeats 4000000 in
set_option maxRecDepth 100000 in
theorem c_X6_append_no2 (l : Launch) (E : wE) (g : Nat → Nat) (th : Int32) (ln : Nat) (tx : Nat → Int32) (nb : Nat) (va : Nat → Int32) (se : Int32) (rc : Nat → MR) (ke : Nat) (hs : Nat → MS) (x : Int32) (hB1 : inB x 33 126 = true) (h60 : ln = 60) : Met l yX6_append wsX6_append ({ frames := 1, cells := 0, slots := 0, locals := 22 }) (va_Pc [.ref ((g 0)), .int x] (wS E 6 g (MOB E g th ln tx nb va se rc ke hs))) (va_Qi (fun (r : Int32) (_ : Unit) => r = 0) (fun _ t => MOB E g 2 ln tx nb va se rc ke hs (t.heap)) (wF 6 g)) 0 0 (wF 6 g) := by
  refine Met.ofW (cc := cX6_append) (maxL := 2) (ret := (some .int)) (by decide) rfl ?_
  intro p e s m args below meth c s₁ B hml hv
  obtain ⟨rfl, ⟨sv, ai, wr, dg, ⟨aa, ro, rv, hP, hrv⟩, hsv, hke, hln, hnb2, hnb⟩, hK, hI⟩ := hv
  have hx := B.exec
  have hb := B.bytes
  have hr := B.returns
  have hts := atoms_spec (ws := wsX6_append) B.pre
  have hown : s.vm.findClass RX6 = some m.cls := findClass_of_methodNamed B.named
  have hlocks := B.notSynchronized
  have hS : va_S (wF 6 g) s.heap s.heap [] := va_S.rf
  have hin6 : ∀ w ∈ wsX60, w ∈ wsX6_append := by decide +kernel
  have hA : ∀ k, k < 6 → (wF 6 g) (g k) := wF_in
  have hl := lv_entry ([.ref ((g 0)), .int x]) (n := 2) (Nat.le_of_ble_eq_true rfl)
  rw [lg_entry_eq]
  generalize (lg_sl ([.ref ((g 0)), .int x]) ++ List.replicate (2 - (lg_sl ([.ref ((g 0)), .int x])).length) Slot.unset).toArray = ls at hl ⊢
  have hl : lv_has ls 2 [(0, .ref ((g 0))), (1, .int x)] := hl
  have hbN := hnb
  refine lv_aload_n hx hb dX6_append_0 rfl (lv_at hl 0 rfl) ?_
  refine lv_iload_n hx hb dX6_append_1 rfl (lv_at hl 1 rfl) ?_
  refine lv_bipush (v := 33) hx hb dX6_append_2 (by decide) ?_
  refine lv_bipush (v := 126) hx hb dX6_append_4 (by decide) ?_
  refine va_calli (va_runS (As := [.int x, .int 33, .int 126]) (rest := [.ref ((g 0))]) ⟨hx, hb, hml, hown, hts⟩ (c_X6_in l x 33 126) (va_cwS 3 hts gX6_append_X6_in rfl rfl rfl (by decide +kernel) ⟨Nat.le_of_ble_eq_true rfl, Nat.le_of_ble_eq_true rfl⟩) ⟨wU_blind, fun U hU hW => ⟨rfl, trivial⟩⟩ rfl rfl hl.1 rfl (lv_room (Nat.le_of_ble_eq_true rfl)) dX6_append_6 ⟨Nat.zero_le _, Nat.zero_le _⟩) hS (fun q _ h => h.elim) (fun q h => h.elim) (fun r_1 uu t H_1 locs_1 ht hvm hw hB hz1 hk1 hS => ?_)
  have hP := hP.same hk1
  obtain rfl : r_1 = (bI (inB x 33 126)) := hw
  refine lv_if_ne (tgt := 16) hx hb dX6_append_9 (by decide) (fun c_2 => ?_) (fun c_2 => ?_)
  · refine lv_aload_n hx hb dX6_append_16 rfl (lv_at hl 0 rfl) ?_
    refine w_get (C := RX6) (T := TX6) (N := 11) (ci := 6) (v := .int (nI ln)) hx hb hts hin6 hown hK hP 0 (by decide) rfl rfl 6 (by decide) (hts (.fieldLink RX6 106 "MixedBlocksModel" "length" "I") (List.mem_of_getElem? (i := 1) rfl)) (fun _ h9 => h9) rfl dX6_append_17 ?_
    refine lv_bipush (v := 60) hx hb dX6_append_20 (by decide) ?_
    refine lv_icmp_ne (tgt := 29) hx hb dX6_append_22 (by decide) (fun c_3 => ?_) (fun c_3 => ?_)
    · have n_3 : ¬ (ln = 60) := fun z => c_3 ((nI_eq (a := ln) (b := 60) (by omega) (by omega)).mpr z)
      exfalso
      omega
    · have n_3 : ln = 60 := (nI_eq (a := ln) (b := 60) (by omega) (by omega)).mp c_3
      refine lv_iconst (v := 2) hx hb dX6_append_25 (by decide) ?_
      refine lv_goto (tgt := 30) hx hb dX6_append_26 (by decide) ?_
      refine va_calli (va_runV (As := [.int 2]) (rest := []) ⟨hx, hb, hml, hown, hts⟩ (c_X6_holds l E g (mdE nb va se rv) th aa sv ke tx ln ro ai wr dg 2) (cwV 1 hts gX6_append_X6_holds rfl rfl rfl (by decide +kernel) ⟨Nat.le_of_ble_eq_true rfl, Nat.le_of_ble_eq_true rfl⟩) ⟨wS.blind, (w_recv hK hP 0 (by decide) rfl (ci := 6) rfl), fun U hU hW => wS.go hP hK hI hU hW⟩ rfl rfl hl.1 rfl (lv_room (Nat.le_of_ble_eq_true rfl)) dX6_append_30 ⟨Nat.zero_le _, Nat.zero_le _⟩) hS (fun q _ h => h) (fun q h => h) (fun r_4 uu t H_4 locs_4 ht hvm hw hB hz1 hk1 hS => ?_)
      rw [ht] at hB
      have hP : wP E 6 g (moF E g 2 (mdE nb va se rv) aa sv ke tx ln ro ai wr dg) H_4 := hB
      obtain rfl : r_4 = 0 := hw
      refine lv_if_ne (tgt := 38) hx hb dX6_append_33 (by decide) (fun c_5 => ?_) (fun c_5 => ?_)
      · exact absurd rfl c_5
      · refine lv_iconst (v := 0) hx hb dX6_append_36 (by decide) ?_
        exact W.iret (v := 0) hx hb hr (fun t ht hW => ⟨⟨_, (), rfl, rfl, (by show MOB E g 2 ln tx nb va se rc ke hs (t.heap); rw [ht]; exact ⟨sv, _, _, _, ⟨_, _, _, hP, hrv⟩, hsv, hke, hln, hnb2, hnb⟩)⟩, hS.F ht⟩) hS.2.2 dX6_append_37
  · rw [hB1] at c_2; exact absurd c_2 (by decide)
set_option maxHeartbeats 4000000 in
set_option maxRecDepth 100000 in
theorem c_X6_clearBuffer_ok (l : Launch) (E : wE) (g : Nat → Nat) (th : Int32) (ln : Nat) (tx : Nat → Int32) (nb : Nat) (va : Nat → Int32) (se : Int32) (rc : Nat → MR) (ke : Nat) (hs : Nat → MS)  : Met l yX6_clearBuffer wsX6_clearBuffer ({ frames := 0, cells := 0, slots := 0, locals := 0 }) (va_Pc [.ref ((g 0))] (wS E 6 g (MOB E g th ln tx nb va se rc ke hs))) (va_Qi (fun (r : Int32) (_ : Unit) => r = nI ln) (fun _ t => MOB E g 0 0 tx nb va se rc ke hs (t.heap)) (wF 6 g)) 0 0 (wF 6 g) := by
  refine Met.ofW (cc := cX6_clearBuffer) (maxL := 2) (ret := (some .int)) (by decide) rfl ?_
  intro p e s m args below meth c s₁ B hml hv
  obtain ⟨rfl, ⟨sv, ai, wr, dg, ⟨aa, ro, rv, hP, hrv⟩, hsv, hke, hln, hnb2, hnb⟩, hK, hI⟩ := hv
  have hx := B.exec
  have hb := B.bytes
  have hr := B.returns
  have hts := atoms_spec (ws := wsX6_clearBuffer) B.pre
  have hown : s.vm.findClass RX6 = some m.cls := findClass_of_methodNamed B.named
  have hlocks := B.notSynchronized
  have hS : va_S (wF 6 g) s.heap s.heap [] := va_S.rf
  have hin6 : ∀ w ∈ wsX60, w ∈ wsX6_clearBuffer := by decide +kernel
  have hA : ∀ k, k < 6 → (wF 6 g) (g k) := wF_in
  have hl := lv_entry ([.ref ((g 0))]) (n := 2) (Nat.le_of_ble_eq_true rfl)
  rw [lg_entry_eq]
  generalize (lg_sl ([.ref ((g 0))]) ++ List.replicate (2 - (lg_sl ([.ref ((g 0))])).length) Slot.unset).toArray = ls at hl ⊢
  have hl : lv_has ls 2 [(0, .ref ((g 0)))] := hl
  have hbN := hnb
  refine lv_aload_n hx hb dX6_clearBuffer_0 rfl (lv_at hl 0 rfl) ?_
  refine lv_iconst (v := 0) hx hb dX6_clearBuffer_1 (by decide) ?_
  refine w_put (C := RX6) (T := TX6) (N := 11) (ci := 6) (v := .int 0) (ty := .int) hx hb hts hin6 tyX6 tyX6_ok nmX6 hown hK hP hI hA hS 0 (by decide) rfl rfl 0 (by decide) (hts (.fieldLink RX6 25 "MixedBlocksModel" "thrown" "I") (List.mem_of_getElem? (i := 1) rfl)) (fun _ h9 => h9) rfl (by decide +kernel) rfl rfl (Nat.le_of_ble_eq_true rfl) dX6_clearBuffer_2 (moF E g 0 (mdE nb va se rv) aa sv ke tx ln ro ai wr dg) rfl mo_ne0 (fun H_1 locs_1 hP hS => ?_)
  refine lv_aload_n hx hb dX6_clearBuffer_5 rfl (lv_at hl 0 rfl) ?_
  refine w_get (C := RX6) (T := TX6) (N := 11) (ci := 6) (v := .int (nI ln)) hx hb hts hin6 hown hK hP 0 (by decide) rfl rfl 6 (by decide) (hts (.fieldLink RX6 106 "MixedBlocksModel" "length" "I") (List.mem_of_getElem? (i := 2) rfl)) (fun _ h9 => h9) rfl dX6_clearBuffer_6 ?_
  refine lv_istore_n (lv' := [(1, .int (nI ln)), (0, .ref ((g 0)))]) hx hb dX6_clearBuffer_9 rfl hl (by decide) rfl (fun ls hl => ?_)
  refine lv_aload_n hx hb dX6_clearBuffer_10 rfl (lv_at hl 1 rfl) ?_
  refine lv_iconst (v := 0) hx hb dX6_clearBuffer_11 (by decide) ?_
  refine w_put (C := RX6) (T := TX6) (N := 11) (ci := 6) (v := .int 0) (ty := .int) hx hb hts hin6 tyX6 tyX6_ok nmX6 hown hK hP hI hA hS 0 (by decide) rfl rfl 6 (by decide) (hts (.fieldLink RX6 106 "MixedBlocksModel" "length" "I") (List.mem_of_getElem? (i := 2) rfl)) (fun _ h9 => h9) rfl (by decide +kernel) rfl rfl (Nat.le_of_ble_eq_true rfl) dX6_clearBuffer_12 (moF E g 0 (mdE nb va se rv) aa sv ke tx 0 ro ai wr dg) rfl mo_ne0 (fun H_2 locs_2 hP hS => ?_)
  refine lv_iload_n hx hb dX6_clearBuffer_15 rfl (lv_at hl 0 rfl) ?_
  exact W.iret (v := (nI ln)) hx hb hr (fun t ht hW => ⟨⟨_, (), rfl, rfl, (by show MOB E g 0 0 tx nb va se rc ke hs (t.heap); rw [ht]; exact ⟨sv, _, _, _, ⟨_, _, _, hP, hrv⟩, hsv, hke, (by decide), hnb2, hnb⟩)⟩, hS.F ht⟩) hS.2.2 dX6_clearBuffer_16
set_option maxHeartbeats 4000000 in
set_option maxRecDepth 100000 in
theorem c_X6_firstError_ok (l : Launch) (E : wE) (g : Nat → Nat) (th : Int32) (ln : Nat) (tx : Nat → Int32) (nb : Nat) (va : Nat → Int32) (se : Int32) (rc : Nat → MR) (ke : Nat) (hs : Nat → MS) (cd : Nat → Nat) (hcs : ∀ j, j < ln → cd j ≤ 126) (htx : ∀ j, j < ln → tx j = nI (cd j)) : Met l yX6_firstError wsX6_firstError ({ frames := 6, cells := 0, slots := 0, locals := 143 }) (va_Pc [.ref ((g 0))] (wS E 6 g (MOB E g th ln tx nb va se rc ke hs))) (va_Qi (fun (r : Int32) (_ : Unit) => r = (if (goM cd ln nb false (ln + 1) 0 0 (se, rc)).1 = true then nI (goM cd ln nb false (ln + 1) 0 0 (se, rc)).2.1 else nI ln)) (fun _ t => MOB E g 0 ln tx nb va se rc ke hs (t.heap)) (wF 6 g)) 0 0 (wF 6 g) := by
  refine Met.ofW (cc := cX6_firstError) (maxL := 2) (ret := (some .int)) (by decide) rfl ?_
  intro p e s m args below meth c s₁ B hml hv
  obtain ⟨rfl, ⟨sv, ai, wr, dg, ⟨aa, ro, rv, hP, hrv⟩, hsv, hke, hln, hnb2, hnb⟩, hK, hI⟩ := hv
  have hx := B.exec
  have hb := B.bytes
  have hr := B.returns
  have hts := atoms_spec (ws := wsX6_firstError) B.pre
  have hown : s.vm.findClass RX6 = some m.cls := findClass_of_methodNamed B.named
  have hlocks := B.notSynchronized
  have hS : va_S (wF 6 g) s.heap s.heap [] := va_S.rf
  have hin6 : ∀ w ∈ wsX60, w ∈ wsX6_firstError := by decide +kernel
  have hA : ∀ k, k < 6 → (wF 6 g) (g k) := wF_in
  have hl := lv_entry ([.ref ((g 0))]) (n := 2) (Nat.le_of_ble_eq_true rfl)
  rw [lg_entry_eq]
  generalize (lg_sl ([.ref ((g 0))]) ++ List.replicate (2 - (lg_sl ([.ref ((g 0))])).length) Slot.unset).toArray = ls at hl ⊢
  have hl : lv_has ls 2 [(0, .ref ((g 0)))] := hl
  have hbN := hnb
  refine lv_aload_n hx hb dX6_firstError_0 rfl (lv_at hl 0 rfl) ?_
  refine lv_iconst (v := 0) hx hb dX6_firstError_1 (by decide) ?_
  refine w_put (C := RX6) (T := TX6) (N := 11) (ci := 6) (v := .int 0) (ty := .int) hx hb hts hin6 tyX6 tyX6_ok nmX6 hown hK hP hI hA hS 0 (by decide) rfl rfl 0 (by decide) (hts (.fieldLink RX6 25 "MixedBlocksModel" "thrown" "I") (List.mem_of_getElem? (i := 1) rfl)) (fun _ h9 => h9) rfl (by decide +kernel) rfl rfl (Nat.le_of_ble_eq_true rfl) dX6_firstError_2 (moF E g 0 (mdE nb va se rv) aa sv ke tx ln ro ai wr dg) rfl mo_ne0 (fun H_1 locs_1 hP hS => ?_)
  refine lv_aload_n hx hb dX6_firstError_5 rfl (lv_at hl 0 rfl) ?_
  refine lv_iconst (v := 0) hx hb dX6_firstError_6 (by decide) ?_
  refine va_calli (va_runV (As := [.int 0]) (rest := []) ⟨hx, hb, hml, hown, hts⟩ (c_X6_go l E g 0 sv ke tx ln ai wr dg nb va se rc false cd hcs htx hln hnb2 hnb) (cwV 1 hts gX6_firstError_X6_go rfl rfl rfl (by decide +kernel) ⟨Nat.le_of_ble_eq_true rfl, Nat.le_of_ble_eq_true rfl⟩) ⟨wS.blind, (w_recv hK hP 0 (by decide) rfl (ci := 6) rfl), fun U hU hW => wS.go ⟨_, _, _, hP, hrv⟩ hK hI hU hW⟩ rfl rfl hl.1 rfl (lv_room (Nat.le_of_ble_eq_true rfl)) dX6_firstError_7 ⟨Nat.zero_le _, Nat.zero_le _⟩) hS (fun q _ h => h) (fun q h => h) (fun r_2 uu t H_2 locs_2 ht hvm hw hB hz1 hk1 hS => ?_)
  rw [ht] at hB
  obtain ⟨aa_2, ro_2, rv_2, hP, hrv_2⟩ := hB
  have hP : wP E 6 g (moF E g 0 (mdE nb va ((goM cd ln nb false (ln + 1) 0 0 (se, rc)).2.2.2.1) rv_2) aa_2 sv ke tx ln ro_2 ((goM cd ln nb false (ln + 1) 0 0 (se, rc)).2.1) ((goM cd ln nb false (ln + 1) 0 0 (se, rc)).1) dg) H_2 := hP
  obtain rfl : r_2 = (nI ((goM cd ln nb false (ln + 1) 0 0 (se, rc)).2.2.1)) := hw
  have hgf : (goM cd ln nb false (ln + 1) 0 0 (se, rc)).2.2.2 = (se, rc) := goM_f _ _ _ _
  rw [hgf] at hP hrv_2
  refine lv_istore_n (lv' := [(1, .int ((nI ((goM cd ln nb false (ln + 1) 0 0 (se, rc)).2.2.1)))), (0, .ref ((g 0)))]) hx hb dX6_firstError_10 rfl hl (by decide) rfl (fun ls hl => ?_)
  refine lv_aload_n hx hb dX6_firstError_11 rfl (lv_at hl 1 rfl) ?_
  refine w_get (C := RX6) (T := TX6) (N := 11) (ci := 6) (v := .int ((bI ((goM cd ln nb false (ln + 1) 0 0 (se, rc)).1)))) hx hb hts hin6 hown hK hP 0 (by decide) rfl rfl 9 (by decide) (hts (.fieldLink RX6 115 "MixedBlocksModel" "isWrong" "Z") (List.mem_of_getElem? (i := 2) rfl)) (fun _ h9 => h9) rfl dX6_firstError_12 ?_
  refine lv_if_eq (tgt := 25) hx hb dX6_firstError_15 (by decide) (fun c_3 => ?_) (fun c_3 => ?_)
  · refine lv_aload_n hx hb dX6_firstError_25 rfl (lv_at hl 1 rfl) ?_
    refine w_get (C := RX6) (T := TX6) (N := 11) (ci := 6) (v := .int (nI ln)) hx hb hts hin6 hown hK hP 0 (by decide) rfl rfl 6 (by decide) (hts (.fieldLink RX6 106 "MixedBlocksModel" "length" "I") (List.mem_of_getElem? (i := 4) rfl)) (fun _ h9 => h9) rfl dX6_firstError_26 ?_
    exact W.iret (v := (nI ln)) hx hb hr (fun t ht hW => ⟨⟨_, (), rfl, (by show _ = _; rw [if_neg (by rw [bI_0 c_3]; decide)]), (by show MOB E g 0 ln tx nb va se rc ke hs (t.heap); rw [ht]; exact ⟨sv, _, _, _, ⟨_, _, _, hP, hrv_2⟩, hsv, hke, hln, hnb2, hnb⟩)⟩, hS.F ht⟩) hS.2.2 dX6_firstError_29
  · refine lv_aload_n hx hb dX6_firstError_18 rfl (lv_at hl 1 rfl) ?_
    refine w_get (C := RX6) (T := TX6) (N := 11) (ci := 6) (v := .int (nI ((goM cd ln nb false (ln + 1) 0 0 (se, rc)).2.1))) hx hb hts hin6 hown hK hP 0 (by decide) rfl rfl 8 (by decide) (hts (.fieldLink RX6 109 "MixedBlocksModel" "at" "I") (List.mem_of_getElem? (i := 3) rfl)) (fun _ h9 => h9) rfl dX6_firstError_19 ?_
    refine lv_goto (tgt := 29) hx hb dX6_firstError_22 (by decide) ?_
    exact W.iret (v := (nI ((goM cd ln nb false (ln + 1) 0 0 (se, rc)).2.1))) hx hb hr (fun t ht hW => ⟨⟨_, (), rfl, (by show _ = _; rw [if_pos (bI_1 c_3)]), (by show MOB E g 0 ln tx nb va se rc ke hs (t.heap); rw [ht]; exact ⟨sv, _, _, _, ⟨_, _, _, hP, hrv_2⟩, hsv, hke, hln, hnb2, hnb⟩)⟩, hS.F ht⟩) hS.2.2 dX6_firstError_29
set_option maxHeartbeats 4000000 in
set_option maxRecDepth 100000 in
theorem c_X6_sendAll_ok (l : Launch) (E : wE) (g : Nat → Nat) (th : Int32) (ln : Nat) (tx : Nat → Int32) (nb : Nat) (va : Nat → Int32) (se : Int32) (rc : Nat → MR) (ke : Nat) (hs : Nat → MS) (cd : Nat → Nat) (hcs : ∀ j, j < ln → cd j ≤ 126) (htx : ∀ j, j < ln → tx j = nI (cd j)) (hB1 : (goM cd ln nb false (ln + 1) 0 0 (se, rc)).1 = false) : Met l yX6_sendAll wsX6_sendAll ({ frames := 6, cells := 0, slots := 0, locals := 143 }) (va_Pc [.ref ((g 0))] (wS E 6 g (MOB E g th ln tx nb va se rc ke hs))) (va_Qi (fun (r : Int32) (_ : Unit) => r = nI (goM cd ln nb true (ln + 1) 0 0 (se, rc)).2.2.1) (fun _ t => MOB E g 0 0 tx nb va ((goM cd ln nb true (ln + 1) 0 0 (se, rc)).2.2.2.1) ((goM cd ln nb true (ln + 1) 0 0 (se, rc)).2.2.2.2) (kpK ke) (pushM ke hs (nb, va, se, rc)) (t.heap)) (wF 6 g)) 0 0 (wF 6 g) := by
  refine Met.ofW (cc := cX6_sendAll) (maxL := 3) (ret := (some .int)) (by decide) rfl ?_
  intro p e s m args below meth c s₁ B hml hv
  obtain ⟨rfl, ⟨sv, ai, wr, dg, ⟨aa, ro, rv, hP, hrv⟩, hsv, hke, hln, hnb2, hnb⟩, hK, hI⟩ := hv
  have hx := B.exec
  have hb := B.bytes
  have hr := B.returns
  have hts := atoms_spec (ws := wsX6_sendAll) B.pre
  have hown : s.vm.findClass RX6 = some m.cls := findClass_of_methodNamed B.named
  have hlocks := B.notSynchronized
  have hS : va_S (wF 6 g) s.heap s.heap [] := va_S.rf
  have hin6 : ∀ w ∈ wsX60, w ∈ wsX6_sendAll := by decide +kernel
  have hA : ∀ k, k < 6 → (wF 6 g) (g k) := wF_in
  have hl := lv_entry ([.ref ((g 0))]) (n := 3) (Nat.le_of_ble_eq_true rfl)
  rw [lg_entry_eq]
  generalize (lg_sl ([.ref ((g 0))]) ++ List.replicate (3 - (lg_sl ([.ref ((g 0))])).length) Slot.unset).toArray = ls at hl ⊢
  have hl : lv_has ls 3 [(0, .ref ((g 0)))] := hl
  have hbN := hnb
  refine lv_aload_n hx hb dX6_sendAll_0 rfl (lv_at hl 0 rfl) ?_
  refine lv_iconst (v := 0) hx hb dX6_sendAll_1 (by decide) ?_
  refine va_calli (va_runV (As := [.int 0]) (rest := []) ⟨hx, hb, hml, hown, hts⟩ (c_X6_go l E g th sv ke tx ln ai wr dg nb va se rc false cd hcs htx hln hnb2 hnb) (cwV 1 hts gX6_sendAll_X6_go rfl rfl rfl (by decide +kernel) ⟨Nat.le_of_ble_eq_true rfl, Nat.le_of_ble_eq_true rfl⟩) ⟨wS.blind, (w_recv hK hP 0 (by decide) rfl (ci := 6) rfl), fun U hU hW => wS.go ⟨_, _, _, hP, hrv⟩ hK hI hU hW⟩ rfl rfl hl.1 rfl (lv_room (Nat.le_of_ble_eq_true rfl)) dX6_sendAll_2 ⟨Nat.zero_le _, Nat.zero_le _⟩) hS (fun q _ h => h) (fun q h => h) (fun r_1 uu t H_1 locs_1 ht hvm hw hB hz1 hk1 hS => ?_)
  rw [ht] at hB
  obtain ⟨aa_1, ro_1, rv_1, hP, hrv_1⟩ := hB
  have hP : wP E 6 g (moF E g th (mdE nb va ((goM cd ln nb false (ln + 1) 0 0 (se, rc)).2.2.2.1) rv_1) aa_1 sv ke tx ln ro_1 ((goM cd ln nb false (ln + 1) 0 0 (se, rc)).2.1) ((goM cd ln nb false (ln + 1) 0 0 (se, rc)).1) dg) H_1 := hP
  obtain rfl : r_1 = (nI ((goM cd ln nb false (ln + 1) 0 0 (se, rc)).2.2.1)) := hw
  have hgf : (goM cd ln nb false (ln + 1) 0 0 (se, rc)).2.2.2 = (se, rc) := goM_f _ _ _ _
  rw [hgf] at hP hrv_1
  refine lv_istore_n (lv' := [(1, .int ((nI ((goM cd ln nb false (ln + 1) 0 0 (se, rc)).2.2.1)))), (0, .ref ((g 0)))]) hx hb dX6_sendAll_5 rfl hl (by decide) rfl (fun ls hl => ?_)
  refine lv_aload_n hx hb dX6_sendAll_6 rfl (lv_at hl 1 rfl) ?_
  refine lv_aload_n hx hb dX6_sendAll_7 rfl (lv_at hl 1 rfl) ?_
  refine w_get (C := RX6) (T := TX6) (N := 11) (ci := 6) (v := .int ((bI ((goM cd ln nb false (ln + 1) 0 0 (se, rc)).1)))) hx hb hts hin6 hown hK hP 0 (by decide) rfl rfl 9 (by decide) (hts (.fieldLink RX6 115 "MixedBlocksModel" "isWrong" "Z") (List.mem_of_getElem? (i := 1) rfl)) (fun _ h9 => h9) rfl dX6_sendAll_8 ?_
  refine lv_if_eq (tgt := 18) hx hb dX6_sendAll_11 (by decide) (fun c_2 => ?_) (fun c_2 => ?_)
  · refine lv_iconst (v := 0) hx hb dX6_sendAll_18 (by decide) ?_
    refine va_calli (va_runV (As := [.int 0]) (rest := []) ⟨hx, hb, hml, hown, hts⟩ (c_X6_holds l E g (mdE nb va se rv_1) th aa_1 sv ke tx ln ro_1 ((goM cd ln nb false (ln + 1) 0 0 (se, rc)).2.1) ((goM cd ln nb false (ln + 1) 0 0 (se, rc)).1) dg 0) (cwV 1 hts gX6_sendAll_X6_holds rfl rfl rfl (by decide +kernel) ⟨Nat.le_of_ble_eq_true rfl, Nat.le_of_ble_eq_true rfl⟩) ⟨wS.blind, (w_recv hK hP 0 (by decide) rfl (ci := 6) rfl), fun U hU hW => wS.go hP hK hI hU hW⟩ rfl rfl hl.1 rfl (lv_room (Nat.le_of_ble_eq_true rfl)) dX6_sendAll_19 ⟨Nat.zero_le _, Nat.zero_le _⟩) hS (fun q _ h => h) (fun q h => h) (fun r_3 uu t H_3 locs_3 ht hvm hw hB hz1 hk1 hS => ?_)
    rw [ht] at hB
    have hP : wP E 6 g (moF E g 0 (mdE nb va se rv_1) aa_1 sv ke tx ln ro_1 ((goM cd ln nb false (ln + 1) 0 0 (se, rc)).2.1) ((goM cd ln nb false (ln + 1) 0 0 (se, rc)).1) dg) H_3 := hB
    obtain rfl : r_3 = 1 := hw
    refine lv_if_ne (tgt := 27) hx hb dX6_sendAll_22 (by decide) (fun c_4 => ?_) (fun c_4 => ?_)
    · refine lv_aload_n hx hb dX6_sendAll_27 rfl (lv_at hl 1 rfl) ?_
      refine va_callv (va_runV (As := []) (rest := []) ⟨hx, hb, hml, hown, hts⟩ (c_X6_save l E g (mdE nb va se rv_1) 0 aa_1 sv ke tx ln ro_1 ((goM cd ln nb false (ln + 1) 0 0 (se, rc)).2.1) ((goM cd ln nb false (ln + 1) 0 0 (se, rc)).1) dg hke) (cwV 0 hts gX6_sendAll_X6_save rfl rfl rfl (by decide +kernel) ⟨Nat.le_of_ble_eq_true rfl, Nat.le_of_ble_eq_true rfl⟩) ⟨wS.blind, (w_recv hK hP 0 (by decide) rfl (ci := 6) rfl), fun U hU hW => wS.go hP hK hI hU hW⟩ rfl rfl hl.1 rfl (lv_room (Nat.le_of_ble_eq_true rfl)) dX6_sendAll_28 ⟨Nat.zero_le _, Nat.zero_le _⟩) hS (fun q _ h => h) (fun q h => h) (fun uu t H_5 locs_5 ht hvm hw hB hz1 hk1 hS => ?_)
      rw [ht] at hB
      obtain ⟨sv_5, hP, hs1_5, hs2_5⟩ := hB
      rw [kpK_eq hke] at hP
      have hP : wP E 6 g (moF E g 0 (mdE nb va se rv_1) aa_1 sv_5 (kpK ke) tx ln ro_1 ((goM cd ln nb false (ln + 1) 0 0 (se, rc)).2.1) ((goM cd ln nb false (ln + 1) 0 0 (se, rc)).1) dg) H_5 := hP
      have hsv_5 : svP (pushM ke hs (nb, va, se, rc)) (kpK ke) sv_5 := svP_push hke hsv ⟨rv_1, fun _ _ => rfl, hrv_1, hnb2, hnb⟩ hs1_5 hs2_5
      refine lv_aload_n hx hb dX6_sendAll_31 rfl (lv_at hl 1 rfl) ?_
      refine lv_iconst (v := 1) hx hb dX6_sendAll_32 (by decide) ?_
      refine va_calli (va_runV (As := [.int 1]) (rest := []) ⟨hx, hb, hml, hown, hts⟩ (c_X6_go l E g 0 sv_5 (kpK ke) tx ln ((goM cd ln nb false (ln + 1) 0 0 (se, rc)).2.1) ((goM cd ln nb false (ln + 1) 0 0 (se, rc)).1) dg nb va se rc true cd hcs htx hln hnb2 hnb) (cwV 1 hts gX6_sendAll_X6_go rfl rfl rfl (by decide +kernel) ⟨Nat.le_of_ble_eq_true rfl, Nat.le_of_ble_eq_true rfl⟩) ⟨wS.blind, (w_recv hK hP 0 (by decide) rfl (ci := 6) rfl), fun U hU hW => wS.go ⟨_, _, _, hP, hrv_1⟩ hK hI hU hW⟩ rfl rfl hl.1 rfl (lv_room (Nat.le_of_ble_eq_true rfl)) dX6_sendAll_33 ⟨Nat.zero_le _, Nat.zero_le _⟩) hS (fun q _ h => h) (fun q h => h) (fun r_6 uu t H_6 locs_6 ht hvm hw hB hz1 hk1 hS => ?_)
      rw [ht] at hB
      obtain ⟨aa_6, ro_6, rv_6, hP, hrv_6⟩ := hB
      have hP : wP E 6 g (moF E g 0 (mdE nb va ((goM cd ln nb true (ln + 1) 0 0 (se, rc)).2.2.2.1) rv_6) aa_6 sv_5 (kpK ke) tx ln ro_6 ((goM cd ln nb true (ln + 1) 0 0 (se, rc)).2.1) ((goM cd ln nb true (ln + 1) 0 0 (se, rc)).1) dg) H_6 := hP
      obtain rfl : r_6 = (nI ((goM cd ln nb true (ln + 1) 0 0 (se, rc)).2.2.1)) := hw
      refine lv_istore_n (lv' := [(2, .int ((nI ((goM cd ln nb true (ln + 1) 0 0 (se, rc)).2.2.1)))), (1, .int ((nI ((goM cd ln nb false (ln + 1) 0 0 (se, rc)).2.2.1)))), (0, .ref ((g 0)))]) hx hb dX6_sendAll_36 rfl hl (by decide) rfl (fun ls hl => ?_)
      refine lv_aload_n hx hb dX6_sendAll_37 rfl (lv_at hl 2 rfl) ?_
      refine lv_iconst (v := 0) hx hb dX6_sendAll_38 (by decide) ?_
      refine w_put (C := RX6) (T := TX6) (N := 11) (ci := 6) (v := .int 0) (ty := .int) hx hb hts hin6 tyX6 tyX6_ok nmX6 hown hK hP hI hA hS 0 (by decide) rfl rfl 6 (by decide) (hts (.fieldLink RX6 106 "MixedBlocksModel" "length" "I") (List.mem_of_getElem? (i := 2) rfl)) (fun _ h9 => h9) rfl (by decide +kernel) rfl rfl (Nat.le_of_ble_eq_true rfl) dX6_sendAll_39 (moF E g 0 (mdE nb va ((goM cd ln nb true (ln + 1) 0 0 (se, rc)).2.2.2.1) rv_6) aa_6 sv_5 (kpK ke) tx 0 ro_6 ((goM cd ln nb true (ln + 1) 0 0 (se, rc)).2.1) ((goM cd ln nb true (ln + 1) 0 0 (se, rc)).1) dg) rfl mo_ne0 (fun H_7 locs_7 hP hS => ?_)
      refine lv_iload_n hx hb dX6_sendAll_42 rfl (lv_at hl 0 rfl) ?_
      exact W.iret (v := (nI ((goM cd ln nb true (ln + 1) 0 0 (se, rc)).2.2.1))) hx hb hr (fun t ht hW => ⟨⟨_, (), rfl, rfl, (by show MOB E g 0 0 tx nb va ((goM cd ln nb true (ln + 1) 0 0 (se, rc)).2.2.2.1) ((goM cd ln nb true (ln + 1) 0 0 (se, rc)).2.2.2.2) (kpK ke) (pushM ke hs (nb, va, se, rc)) (t.heap); rw [ht]; exact ⟨sv_5, _, _, _, ⟨_, _, _, hP, hrv_6⟩, hsv_5, (kpK_le hke), (Nat.zero_le _), hnb2, hnb⟩)⟩, hS.F ht⟩) hS.2.2 dX6_sendAll_43
    · exact absurd c_4 (by decide)
  · rw [hB1] at c_2; exact absurd rfl c_2
set_option maxHeartbeats 4000000 in
set_option maxRecDepth 100000 in
theorem c_X6_sendAll_no (l : Launch) (E : wE) (g : Nat → Nat) (th : Int32) (ln : Nat) (tx : Nat → Int32) (nb : Nat) (va : Nat → Int32) (se : Int32) (rc : Nat → MR) (ke : Nat) (hs : Nat → MS) (cd : Nat → Nat) (hcs : ∀ j, j < ln → cd j ≤ 126) (htx : ∀ j, j < ln → tx j = nI (cd j)) (hB1 : (goM cd ln nb false (ln + 1) 0 0 (se, rc)).1 = true) : Met l yX6_sendAll wsX6_sendAll ({ frames := 6, cells := 0, slots := 0, locals := 143 }) (va_Pc [.ref ((g 0))] (wS E 6 g (MOB E g th ln tx nb va se rc ke hs))) (va_Qi (fun (r : Int32) (_ : Unit) => r = 0) (fun _ t => MOB E g 1 ln tx nb va se rc ke hs (t.heap)) (wF 6 g)) 0 0 (wF 6 g) := by
  refine Met.ofW (cc := cX6_sendAll) (maxL := 3) (ret := (some .int)) (by decide) rfl ?_
  intro p e s m args below meth c s₁ B hml hv
  obtain ⟨rfl, ⟨sv, ai, wr, dg, ⟨aa, ro, rv, hP, hrv⟩, hsv, hke, hln, hnb2, hnb⟩, hK, hI⟩ := hv
  have hx := B.exec
  have hb := B.bytes
  have hr := B.returns
  have hts := atoms_spec (ws := wsX6_sendAll) B.pre
  have hown : s.vm.findClass RX6 = some m.cls := findClass_of_methodNamed B.named
  have hlocks := B.notSynchronized
  have hS : va_S (wF 6 g) s.heap s.heap [] := va_S.rf
  have hin6 : ∀ w ∈ wsX60, w ∈ wsX6_sendAll := by decide +kernel
  have hA : ∀ k, k < 6 → (wF 6 g) (g k) := wF_in
  have hl := lv_entry ([.ref ((g 0))]) (n := 3) (Nat.le_of_ble_eq_true rfl)
  rw [lg_entry_eq]
  generalize (lg_sl ([.ref ((g 0))]) ++ List.replicate (3 - (lg_sl ([.ref ((g 0))])).length) Slot.unset).toArray = ls at hl ⊢
  have hl : lv_has ls 3 [(0, .ref ((g 0)))] := hl
  have hbN := hnb
  refine lv_aload_n hx hb dX6_sendAll_0 rfl (lv_at hl 0 rfl) ?_
  refine lv_iconst (v := 0) hx hb dX6_sendAll_1 (by decide) ?_
  refine va_calli (va_runV (As := [.int 0]) (rest := []) ⟨hx, hb, hml, hown, hts⟩ (c_X6_go l E g th sv ke tx ln ai wr dg nb va se rc false cd hcs htx hln hnb2 hnb) (cwV 1 hts gX6_sendAll_X6_go rfl rfl rfl (by decide +kernel) ⟨Nat.le_of_ble_eq_true rfl, Nat.le_of_ble_eq_true rfl⟩) ⟨wS.blind, (w_recv hK hP 0 (by decide) rfl (ci := 6) rfl), fun U hU hW => wS.go ⟨_, _, _, hP, hrv⟩ hK hI hU hW⟩ rfl rfl hl.1 rfl (lv_room (Nat.le_of_ble_eq_true rfl)) dX6_sendAll_2 ⟨Nat.zero_le _, Nat.zero_le _⟩) hS (fun q _ h => h) (fun q h => h) (fun r_1 uu t H_1 locs_1 ht hvm hw hB hz1 hk1 hS => ?_)
  rw [ht] at hB
  obtain ⟨aa_1, ro_1, rv_1, hP, hrv_1⟩ := hB
  have hP : wP E 6 g (moF E g th (mdE nb va ((goM cd ln nb false (ln + 1) 0 0 (se, rc)).2.2.2.1) rv_1) aa_1 sv ke tx ln ro_1 ((goM cd ln nb false (ln + 1) 0 0 (se, rc)).2.1) ((goM cd ln nb false (ln + 1) 0 0 (se, rc)).1) dg) H_1 := hP
  obtain rfl : r_1 = (nI ((goM cd ln nb false (ln + 1) 0 0 (se, rc)).2.2.1)) := hw
  have hgf : (goM cd ln nb false (ln + 1) 0 0 (se, rc)).2.2.2 = (se, rc) := goM_f _ _ _ _
  rw [hgf] at hP hrv_1
  refine lv_istore_n (lv' := [(1, .int ((nI ((goM cd ln nb false (ln + 1) 0 0 (se, rc)).2.2.1)))), (0, .ref ((g 0)))]) hx hb dX6_sendAll_5 rfl hl (by decide) rfl (fun ls hl => ?_)
  refine lv_aload_n hx hb dX6_sendAll_6 rfl (lv_at hl 1 rfl) ?_
  refine lv_aload_n hx hb dX6_sendAll_7 rfl (lv_at hl 1 rfl) ?_
  refine w_get (C := RX6) (T := TX6) (N := 11) (ci := 6) (v := .int ((bI ((goM cd ln nb false (ln + 1) 0 0 (se, rc)).1)))) hx hb hts hin6 hown hK hP 0 (by decide) rfl rfl 9 (by decide) (hts (.fieldLink RX6 115 "MixedBlocksModel" "isWrong" "Z") (List.mem_of_getElem? (i := 1) rfl)) (fun _ h9 => h9) rfl dX6_sendAll_8 ?_
  refine lv_if_eq (tgt := 18) hx hb dX6_sendAll_11 (by decide) (fun c_2 => ?_) (fun c_2 => ?_)
  · rw [hB1] at c_2; exact absurd c_2 (by decide)
  · refine lv_iconst (v := 1) hx hb dX6_sendAll_14 (by decide) ?_
    refine lv_goto (tgt := 19) hx hb dX6_sendAll_15 (by decide) ?_
    refine va_calli (va_runV (As := [.int 1]) (rest := []) ⟨hx, hb, hml, hown, hts⟩ (c_X6_holds l E g (mdE nb va se rv_1) th aa_1 sv ke tx ln ro_1 ((goM cd ln nb false (ln + 1) 0 0 (se, rc)).2.1) ((goM cd ln nb false (ln + 1) 0 0 (se, rc)).1) dg 1) (cwV 1 hts gX6_sendAll_X6_holds rfl rfl rfl (by decide +kernel) ⟨Nat.le_of_ble_eq_true rfl, Nat.le_of_ble_eq_true rfl⟩) ⟨wS.blind, (w_recv hK hP 0 (by decide) rfl (ci := 6) rfl), fun U hU hW => wS.go hP hK hI hU hW⟩ rfl rfl hl.1 rfl (lv_room (Nat.le_of_ble_eq_true rfl)) dX6_sendAll_19 ⟨Nat.zero_le _, Nat.zero_le _⟩) hS (fun q _ h => h) (fun q h => h) (fun r_3 uu t H_3 locs_3 ht hvm hw hB hz1 hk1 hS => ?_)
    rw [ht] at hB
    have hP : wP E 6 g (moF E g 1 (mdE nb va se rv_1) aa_1 sv ke tx ln ro_1 ((goM cd ln nb false (ln + 1) 0 0 (se, rc)).2.1) ((goM cd ln nb false (ln + 1) 0 0 (se, rc)).1) dg) H_3 := hB
    obtain rfl : r_3 = 0 := hw
    refine lv_if_ne (tgt := 27) hx hb dX6_sendAll_22 (by decide) (fun c_4 => ?_) (fun c_4 => ?_)
    · exact absurd rfl c_4
    · refine lv_iconst (v := 0) hx hb dX6_sendAll_25 (by decide) ?_
      exact W.iret (v := 0) hx hb hr (fun t ht hW => ⟨⟨_, (), rfl, rfl, (by show MOB E g 1 ln tx nb va se rc ke hs (t.heap); rw [ht]; exact ⟨sv, _, _, _, ⟨_, _, _, hP, hrv_1⟩, hsv, hke, hln, hnb2, hnb⟩)⟩, hS.F ht⟩) hS.2.2 dX6_sendAll_26
set_option maxHeartbeats 4000000 in
set_option maxRecDepth 100000 in
theorem c_X6_undo_ok (l : Launch) (E : wE) (g : Nat → Nat) (th : Int32) (ln : Nat) (tx : Nat → Int32) (nb : Nat) (va : Nat → Int32) (se : Int32) (rc : Nat → MR) (ke : Nat) (hs : Nat → MS) (h0 : 0 < ke) : Met l yX6_undo wsX6_undo ({ frames := 1, cells := 0, slots := 0, locals := 21 }) (va_Pc [.ref ((g 0))] (wS E 6 g (MOB E g th ln tx nb va se rc ke hs))) (va_Qi (fun (r : Int32) (_ : Unit) => r = nI (ke - 1)) (fun _ t => MOB E g 0 ln tx ((hs (ke - 1)).1) ((hs (ke - 1)).2.1) ((hs (ke - 1)).2.2.1) ((hs (ke - 1)).2.2.2) (ke - 1) hs (t.heap)) (wF 6 g)) 0 0 (wF 6 g) := by
  refine Met.ofW (cc := cX6_undo) (maxL := 2) (ret := (some .int)) (by decide) rfl ?_
  intro p e s m args below meth c s₁ B hml hv
  obtain ⟨rfl, ⟨sv, ai, wr, dg, ⟨aa, ro, rv, hP, hrv⟩, hsv, hke, hln, hnb2, hnb⟩, hK, hI⟩ := hv
  have hx := B.exec
  have hb := B.bytes
  have hr := B.returns
  have hts := atoms_spec (ws := wsX6_undo) B.pre
  have hown : s.vm.findClass RX6 = some m.cls := findClass_of_methodNamed B.named
  have hlocks := B.notSynchronized
  have hS : va_S (wF 6 g) s.heap s.heap [] := va_S.rf
  have hin6 : ∀ w ∈ wsX60, w ∈ wsX6_undo := by decide +kernel
  have hA : ∀ k, k < 6 → (wF 6 g) (g k) := wF_in
  have hl := lv_entry ([.ref ((g 0))]) (n := 2) (Nat.le_of_ble_eq_true rfl)
  rw [lg_entry_eq]
  generalize (lg_sl ([.ref ((g 0))]) ++ List.replicate (2 - (lg_sl ([.ref ((g 0))])).length) Slot.unset).toArray = ls at hl ⊢
  have hl : lv_has ls 2 [(0, .ref ((g 0)))] := hl
  have hbN := hnb
  refine lv_aload_n hx hb dX6_undo_0 rfl (lv_at hl 0 rfl) ?_
  refine lv_aload_n hx hb dX6_undo_1 rfl (lv_at hl 0 rfl) ?_
  refine w_get (C := RX6) (T := TX6) (N := 11) (ci := 6) (v := .int (nI ke)) hx hb hts hin6 hown hK hP 0 (by decide) rfl rfl 4 (by decide) (hts (.fieldLink RX6 33 "MixedBlocksModel" "savedMany" "I") (List.mem_of_getElem? (i := 1) rfl)) (fun _ h9 => h9) rfl dX6_undo_2 ?_
  refine lv_if_le (tgt := 12) hx hb dX6_undo_5 (by decide) (fun c_1 => ?_) (fun c_1 => ?_)
  · have n_1 : ke ≤ 0 := (nI_leI (a := ke) (b := 0) (by omega) (by omega)).mp c_1
    exfalso
    omega
  · have n_1 : ¬ (ke ≤ 0) := fun z => c_1 ((nI_leI (a := ke) (b := 0) (by omega) (by omega)).mpr z)
    refine lv_iconst (v := 0) hx hb dX6_undo_8 (by decide) ?_
    refine lv_goto (tgt := 13) hx hb dX6_undo_9 (by decide) ?_
    refine va_calli (va_runV (As := [.int 0]) (rest := []) ⟨hx, hb, hml, hown, hts⟩ (c_X6_holds l E g (mdE nb va se rv) th aa sv ke tx ln ro ai wr dg 0) (cwV 1 hts gX6_undo_X6_holds rfl rfl rfl (by decide +kernel) ⟨Nat.le_of_ble_eq_true rfl, Nat.le_of_ble_eq_true rfl⟩) ⟨wS.blind, (w_recv hK hP 0 (by decide) rfl (ci := 6) rfl), fun U hU hW => wS.go hP hK hI hU hW⟩ rfl rfl hl.1 rfl (lv_room (Nat.le_of_ble_eq_true rfl)) dX6_undo_13 ⟨Nat.zero_le _, Nat.zero_le _⟩) hS (fun q _ h => h) (fun q h => h) (fun r_2 uu t H_2 locs_2 ht hvm hw hB hz1 hk1 hS => ?_)
    rw [ht] at hB
    have hP : wP E 6 g (moF E g 0 (mdE nb va se rv) aa sv ke tx ln ro ai wr dg) H_2 := hB
    obtain rfl : r_2 = 1 := hw
    refine lv_if_ne (tgt := 21) hx hb dX6_undo_16 (by decide) (fun c_3 => ?_) (fun c_3 => ?_)
    · refine lv_aload_n hx hb dX6_undo_21 rfl (lv_at hl 0 rfl) ?_
      refine lv_dup hx hb dX6_undo_22 rfl ?_
      refine w_get (C := RX6) (T := TX6) (N := 11) (ci := 6) (v := .int (nI ke)) hx hb hts hin6 hown hK hP 0 (by decide) rfl rfl 4 (by decide) (hts (.fieldLink RX6 33 "MixedBlocksModel" "savedMany" "I") (List.mem_of_getElem? (i := 1) rfl)) (fun _ h9 => h9) rfl dX6_undo_23 ?_
      refine lv_iconst (v := 1) hx hb dX6_undo_26 (by decide) ?_
      refine lv_isub hx hb dX6_undo_27 ?_
      rw [show (nI ke) - 1 = nI (ke - 1) from pk_sub (a := ke) (b := 1) (by omega)]
      refine w_put (C := RX6) (T := TX6) (N := 11) (ci := 6) (v := .int (nI (ke - 1))) (ty := .int) hx hb hts hin6 tyX6 tyX6_ok nmX6 hown hK hP hI hA hS 0 (by decide) rfl rfl 4 (by decide) (hts (.fieldLink RX6 33 "MixedBlocksModel" "savedMany" "I") (List.mem_of_getElem? (i := 1) rfl)) (fun _ h9 => h9) rfl (by decide +kernel) rfl rfl (Nat.le_of_ble_eq_true rfl) dX6_undo_28 (moF E g 0 (mdE nb va se rv) aa sv (ke - 1) tx ln ro ai wr dg) rfl mo_ne0 (fun H_4 locs_4 hP hS => ?_)
      refine lv_iconst (v := 0) hx hb dX6_undo_31 (by decide) ?_
      refine lv_istore_n (lv' := [(1, .int 0), (0, .ref ((g 0)))]) hx hb dX6_undo_32 rfl hl (by decide) rfl (fun ls hl => ?_)
      have hsvU := hsv (ke - 1) (by omega)
      obtain ⟨f0, hf0⟩ : ∃ f0, f0 = (mdE nb va se rv) := ⟨_, rfl⟩
      rw [← hf0] at hP
      rw [← cpA_0 sv (104 * (ke - 1)) f0] at hP
      have L33 : ∀ (k : Nat) (i : Nat) (H : Heap) (locs : List Loc) (ls : Array Slot), i + k = 104 → wP E 6 g (moF E g 0 (cpA sv (104 * (ke - 1)) f0 i) aa sv (ke - 1) tx ln ro ai wr dg) H → va_S (wF 6 g) s.heap H locs → lv_has ls 2 [(1, .int (nI i)), (0, .ref ((g 0)))] → W p l e (headSpec wsX6_undo ({ frames := 1, cells := 0, slots := 0, locals := 21 })).room s m ([.ref ((g 0))] : List Value).toArray below meth c H locs 0 0 (MQ below (va_Qi (fun (r : Int32) (_ : Unit) => r = nI (ke - 1)) (fun _ t => MOB E g 0 ln tx ((hs (ke - 1)).1) ((hs (ke - 1)).2.1) ((hs (ke - 1)).2.2.1) ((hs (ke - 1)).2.2.2) (ke - 1) hs (t.heap)) (wF 6 g)) ([.ref ((g 0))] : List Value).toArray s 0 0 (wF 6 g)) (F0 m 33 ls []) := by
        intro k
        induction k with
        | zero =>
          intro i H locs ls hi hP hS hl
          refine lv_iload_n hx hb dX6_undo_33 rfl (lv_at hl 0 rfl) ?_
          refine lv_bipush (v := 104) hx hb dX6_undo_34 (by decide) ?_
          refine lv_icmp_ge (tgt := 65) hx hb dX6_undo_36 (by decide) (fun c_5 => ?_) (fun c_5 => ?_)
          · have n_5 : 104 ≤ i := (nI_leI (a := 104) (b := i) (by omega) (by omega)).mp c_5
            rw [show i = 104 by omega] at hP
            obtain ⟨rv9, hm9, hrv9, hb9a, hb9b⟩ := mdQ_back (f := f0) hsvU
            have hP := moF_s hP hm9
            refine lv_aload_n hx hb dX6_undo_65 rfl (lv_at hl 1 rfl) ?_
            refine w_get (C := RX6) (T := TX6) (N := 11) (ci := 6) (v := .int (nI (ke - 1))) hx hb hts hin6 hown hK hP 0 (by decide) rfl rfl 4 (by decide) (hts (.fieldLink RX6 33 "MixedBlocksModel" "savedMany" "I") (List.mem_of_getElem? (i := 1) rfl)) (fun _ h9 => h9) rfl dX6_undo_66 ?_
            exact W.iret (v := (nI (ke - 1))) hx hb hr (fun t ht hW => ⟨⟨_, (), rfl, rfl, (by show MOB E g 0 ln tx ((hs (ke - 1)).1) ((hs (ke - 1)).2.1) ((hs (ke - 1)).2.2.1) ((hs (ke - 1)).2.2.2) (ke - 1) hs (t.heap); rw [ht]; exact ⟨sv, _, _, _, ⟨_, _, _, hP, hrv9⟩, (svP_pop hsv), (by omega), hln, hb9a, hb9b⟩)⟩, hS.F ht⟩) hS.2.2 dX6_undo_69
          · have n_5 : ¬ (104 ≤ i) := fun z => c_5 ((nI_leI (a := 104) (b := i) (by omega) (by omega)).mpr z)
            exfalso
            omega
        | succ k ihk =>
          intro i H locs ls hi hP hS hl
          refine lv_iload_n hx hb dX6_undo_33 rfl (lv_at hl 0 rfl) ?_
          refine lv_bipush (v := 104) hx hb dX6_undo_34 (by decide) ?_
          refine lv_icmp_ge (tgt := 65) hx hb dX6_undo_36 (by decide) (fun c_6 => ?_) (fun c_6 => ?_)
          · have n_6 : 104 ≤ i := (nI_leI (a := 104) (b := i) (by omega) (by omega)).mp c_6
            exfalso
            omega
          · have n_6 : ¬ (104 ≤ i) := fun z => c_6 ((nI_leI (a := 104) (b := i) (by omega) (by omega)).mpr z)
            refine lv_aload_n hx hb dX6_undo_39 rfl (lv_at hl 1 rfl) ?_
            refine w_get (C := RX6) (T := TX6) (N := 11) (ci := 6) (v := .ref ((g 1))) hx hb hts hin6 hown hK hP 0 (by decide) rfl rfl 1 (by decide) (hts (.fieldLink RX6 7 "MixedBlocksModel" "s" "[I") (List.mem_of_getElem? (i := 2) rfl)) (fun _ h9 => h9) rfl dX6_undo_40 ?_
            refine lv_iload_n hx hb dX6_undo_43 rfl (lv_at hl 0 rfl) ?_
            refine lv_aload_n hx hb dX6_undo_44 rfl (lv_at hl 1 rfl) ?_
            refine w_get (C := RX6) (T := TX6) (N := 11) (ci := 6) (v := .ref ((g 3))) hx hb hts hin6 hown hK hP 0 (by decide) rfl rfl 3 (by decide) (hts (.fieldLink RX6 16 "MixedBlocksModel" "saved" "[I") (List.mem_of_getElem? (i := 3) rfl)) (fun _ h9 => h9) rfl dX6_undo_45 ?_
            refine lv_bipush (v := 104) hx hb dX6_undo_48 (by decide) ?_
            refine lv_aload_n hx hb dX6_undo_50 rfl (lv_at hl 1 rfl) ?_
            refine w_get (C := RX6) (T := TX6) (N := 11) (ci := 6) (v := .int (nI (ke - 1))) hx hb hts hin6 hown hK hP 0 (by decide) rfl rfl 4 (by decide) (hts (.fieldLink RX6 33 "MixedBlocksModel" "savedMany" "I") (List.mem_of_getElem? (i := 1) rfl)) (fun _ h9 => h9) rfl dX6_undo_51 ?_
            refine lv_imul hx hb dX6_undo_54 ?_
            rw [show 104 * (nI (ke - 1)) = nI (104 * (ke - 1)) from pk_mul 104 (ke - 1)]
            refine lv_iload_n hx hb dX6_undo_55 rfl (lv_at hl 0 rfl) ?_
            refine lv_iadd hx hb dX6_undo_56 ?_
            rw [show (nI (104 * (ke - 1))) + (nI i) = nI ((104 * (ke - 1)) + i) from nI_add (104 * (ke - 1)) i]
            refine w_iald hx hb hK hP 3 (by decide) rfl (vp_in_nI (by omega) (by decide)) dX6_undo_57 ?_
            rw [nI_clamp (by omega)]
            refine w_iast hx hb hK hP hI hA hS 1 (by decide) rfl (vp_in_nI (by omega) (by decide)) dX6_undo_58 (moF E g 0 (upd (cpA sv (104 * (ke - 1)) f0 i) i (sv ((104 * (ke - 1)) + i))) aa sv (ke - 1) tx ln ro ai wr dg) (congrArg (fun z : Nat => (Sum.inl (E.2.1, 104, Sum.inl (upd (cpA sv (104 * (ke - 1)) f0 i) z (sv ((104 * (ke - 1)) + i)))) : va_E)) (nI_clamp (by omega)).symm) mo_ne1 (fun H_7 locs_7 hP hS => ?_)
            refine lv_iinc (v := (nI (i + 1))) (lv' := [(1, .int (nI (i + 1))), (0, .ref ((g 0)))]) hx hb dX6_undo_59 hl (k := 0) rfl (nI_1 _) (by decide) rfl (fun ls hl => ?_)
            refine lv_goto (tgt := 33) hx hb dX6_undo_62 (by decide) ?_
            rw [cpA_s] at hP
            exact ihk (i + 1) _ _ ls (by omega) hP hS (lv_sub hl [0, 1] rfl)
      exact L33 104 0 _ _ ls rfl hP hS (lv_sub hl [0, 1] rfl)
    · exact absurd c_3 (by decide)
set_option maxHeartbeats 4000000 in
set_option maxRecDepth 100000 in
theorem c_X6_undo_no (l : Launch) (E : wE) (g : Nat → Nat) (th : Int32) (ln : Nat) (tx : Nat → Int32) (nb : Nat) (va : Nat → Int32) (se : Int32) (rc : Nat → MR) (ke : Nat) (hs : Nat → MS) (h0 : ke = 0) : Met l yX6_undo wsX6_undo ({ frames := 1, cells := 0, slots := 0, locals := 21 }) (va_Pc [.ref ((g 0))] (wS E 6 g (MOB E g th ln tx nb va se rc ke hs))) (va_Qi (fun (r : Int32) (_ : Unit) => r = 0) (fun _ t => MOB E g 1 ln tx nb va se rc ke hs (t.heap)) (wF 6 g)) 0 0 (wF 6 g) := by
  refine Met.ofW (cc := cX6_undo) (maxL := 2) (ret := (some .int)) (by decide) rfl ?_
  intro p e s m args below meth c s₁ B hml hv
  obtain ⟨rfl, ⟨sv, ai, wr, dg, ⟨aa, ro, rv, hP, hrv⟩, hsv, hke, hln, hnb2, hnb⟩, hK, hI⟩ := hv
  have hx := B.exec
  have hb := B.bytes
  have hr := B.returns
  have hts := atoms_spec (ws := wsX6_undo) B.pre
  have hown : s.vm.findClass RX6 = some m.cls := findClass_of_methodNamed B.named
  have hlocks := B.notSynchronized
  have hS : va_S (wF 6 g) s.heap s.heap [] := va_S.rf
  have hin6 : ∀ w ∈ wsX60, w ∈ wsX6_undo := by decide +kernel
  have hA : ∀ k, k < 6 → (wF 6 g) (g k) := wF_in
  have hl := lv_entry ([.ref ((g 0))]) (n := 2) (Nat.le_of_ble_eq_true rfl)
  rw [lg_entry_eq]
  generalize (lg_sl ([.ref ((g 0))]) ++ List.replicate (2 - (lg_sl ([.ref ((g 0))])).length) Slot.unset).toArray = ls at hl ⊢
  have hl : lv_has ls 2 [(0, .ref ((g 0)))] := hl
  have hbN := hnb
  refine lv_aload_n hx hb dX6_undo_0 rfl (lv_at hl 0 rfl) ?_
  refine lv_aload_n hx hb dX6_undo_1 rfl (lv_at hl 0 rfl) ?_
  refine w_get (C := RX6) (T := TX6) (N := 11) (ci := 6) (v := .int (nI ke)) hx hb hts hin6 hown hK hP 0 (by decide) rfl rfl 4 (by decide) (hts (.fieldLink RX6 33 "MixedBlocksModel" "savedMany" "I") (List.mem_of_getElem? (i := 1) rfl)) (fun _ h9 => h9) rfl dX6_undo_2 ?_
  refine lv_if_le (tgt := 12) hx hb dX6_undo_5 (by decide) (fun c_1 => ?_) (fun c_1 => ?_)
  · have n_1 : ke ≤ 0 := (nI_leI (a := ke) (b := 0) (by omega) (by omega)).mp c_1
    refine lv_iconst (v := 1) hx hb dX6_undo_12 (by decide) ?_
    refine va_calli (va_runV (As := [.int 1]) (rest := []) ⟨hx, hb, hml, hown, hts⟩ (c_X6_holds l E g (mdE nb va se rv) th aa sv ke tx ln ro ai wr dg 1) (cwV 1 hts gX6_undo_X6_holds rfl rfl rfl (by decide +kernel) ⟨Nat.le_of_ble_eq_true rfl, Nat.le_of_ble_eq_true rfl⟩) ⟨wS.blind, (w_recv hK hP 0 (by decide) rfl (ci := 6) rfl), fun U hU hW => wS.go hP hK hI hU hW⟩ rfl rfl hl.1 rfl (lv_room (Nat.le_of_ble_eq_true rfl)) dX6_undo_13 ⟨Nat.zero_le _, Nat.zero_le _⟩) hS (fun q _ h => h) (fun q h => h) (fun r_2 uu t H_2 locs_2 ht hvm hw hB hz1 hk1 hS => ?_)
    rw [ht] at hB
    have hP : wP E 6 g (moF E g 1 (mdE nb va se rv) aa sv ke tx ln ro ai wr dg) H_2 := hB
    obtain rfl : r_2 = 0 := hw
    refine lv_if_ne (tgt := 21) hx hb dX6_undo_16 (by decide) (fun c_3 => ?_) (fun c_3 => ?_)
    · exact absurd rfl c_3
    · refine lv_iconst (v := 0) hx hb dX6_undo_19 (by decide) ?_
      exact W.iret (v := 0) hx hb hr (fun t ht hW => ⟨⟨_, (), rfl, rfl, (by show MOB E g 1 ln tx nb va se rc ke hs (t.heap); rw [ht]; exact ⟨sv, _, _, _, ⟨_, _, _, hP, hrv⟩, hsv, hke, hln, hnb2, hnb⟩)⟩, hS.F ht⟩) hS.2.2 dX6_undo_20
  · have n_1 : ¬ (ke ≤ 0) := fun z => c_1 ((nI_leI (a := ke) (b := 0) (by omega) (by omega)).mpr z)
    exfalso
    omega

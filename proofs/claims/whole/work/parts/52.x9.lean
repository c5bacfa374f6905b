set_option maxHeartbeats 4000000 in
set_option maxRecDepth 100000 in
theorem c_X5_sendAll (l : Launch) (hst : l.stackTraces = false) (E : wE) (g : Nat → Nat) (ln : Nat) (bf : Nat → Int32) (z : SS) (ke : Nat) (hs : Nat → SS) (cd : Nat → Nat) (hcs : ∀ j, j < ln → cd j ≤ 126) (hbf : ∀ j, j < ln → bf j = nI (cd j)) : vx_Met l yX5_sendAll wsX5_sendAll ({ frames := 7, cells := 1, slots := 6, locals := 174 }) (va_Pc [.ref ((g 0))] (wSx E 94 g (wF 94 g) (MB E g ln bf z ke hs))) (va_Qi (fun (r : Int32) (_ : Unit) => r = nI (saZ cd ln z).1) (fun _ t => ctS cd ln = true ∧ MB E g 0 bf (saZ cd ln z).2.2 (kpK ke) (pushH ke hs z) (t.heap)) (wF 94 g)) (vx_X (S := Unit) (fun _ => True) (fun Ex _ t => Ex = "java/lang/IllegalArgumentException" ∧ ¬ ctS cd ln = true ∧ MB E g ln bf z ke hs (t.heap)) (wF 94 g)) 1 6 (wF 94 g) := by
  refine vx_ofW (cc := cX5_sendAll) (maxL := 3) (ret := (some .int)) (by decide) rfl ?_
  intro p e s m args below meth c s₁ B hml hno hv
  obtain ⟨rfl, ⟨ol, zs, ⟨hol, hke, hzs, hln, hnb2, hnb⟩, hM, ⟨⟨pa, hPa⟩, ⟨el, hEl⟩, ⟨tli, tq, hTr⟩⟩, hN, hHi, hHs⟩, hK, hI, hxe⟩ := hv
  have hx := B.exec
  have hb := B.bytes
  have hr := B.returns
  have hts := atoms_spec (ws := wsX5_sendAll) B.pre
  have hown : s.vm.findClass RX5 = some m.cls := findClass_of_methodNamed B.named
  have hlocks := B.notSynchronized
  have hS : va_S (wF 94 g) s.heap s.heap [] := va_S.rf
  have hin5 : ∀ w ∈ wsX50, w ∈ wsX5_sendAll := by decide +kernel
  have hl := lv_entry ([.ref ((g 0))]) (n := 3) (Nat.le_of_ble_eq_true rfl)
  rw [lg_entry_eq]
  generalize (lg_sl ([.ref ((g 0))]) ++ List.replicate (3 - (lg_sl ([.ref ((g 0))])).length) Slot.unset).toArray = ls at hl ⊢
  have hl : lv_has ls 3 [(0, .ref ((g 0)))] := hl
  have hN : stP E (off g 8) z.1 z.2.1 z.2.2.1 z.2.2.2 s.heap := hN
  have hdg := hxe.2.2.2.2
  refine lv_aload_n hx hb dX5_sendAll_0 rfl (lv_at hl 0 rfl) ?_
  refine va_calli (va_runV (As := []) (rest := []) ⟨hx, hb, hml, hown, hts⟩ (c_X5_isCompleteText l E g ln bf z ke hs cd hcs hbf) (cwV 0 hts gX5_sendAll_X5_isCompleteText rfl rfl rfl (by decide +kernel) ⟨Nat.le_of_ble_eq_true rfl, Nat.le_of_ble_eq_true rfl⟩) ⟨wS.blind, (w_recv hK hM 0 (by decide) rfl (ci := 5) rfl), fun U hU hW => wS.go ⟨ol, zs, ⟨hol, hke, hzs, hln, hnb2, hnb⟩, hM, ⟨⟨(pa.1, pa.2.1, pa.2.2), hPa⟩, ⟨(el.1, el.2), hEl⟩, ⟨tli, tq, hTr⟩⟩, hN, hHi, hHs⟩ hK hI hU hW⟩ rfl rfl hl.1 rfl (lv_room (Nat.le_of_ble_eq_true rfl)) dX5_sendAll_1 ⟨Nat.le_of_ble_eq_true rfl, Nat.le_of_ble_eq_true rfl⟩) hS (fun q _ h => h) (fun q h => h) (fun r_1 uu t H_1 locs_1 ht hvm hw hB hz1 hk1 hS => ?_)
  rw [ht] at hB
  obtain ⟨ol, zs, ⟨hol, hke, hzs, hln, hnb2, hnb⟩, hM, ⟨⟨pa, hPa⟩, ⟨el, hEl⟩, ⟨tli, tq, hTr⟩⟩, hN, hHi, hHs⟩ := hB
  have hN : stP E (off g 8) z.1 z.2.1 z.2.2.1 z.2.2.2 _ := hN
  obtain rfl : r_1 = (bI (ctS cd ln)) := hw
  refine lv_if_ne (tgt := 17) hx hb dX5_sendAll_4 (by decide) (fun c_2 => ?_) (fun c_2 => ?_)
  · refine lv_aload_n hx hb dX5_sendAll_17 rfl (lv_at hl 0 rfl) ?_
    refine w_get (C := RX5) (T := TX5) (N := 7) (ci := 5) (v := .ref ((g 20))) hx hb hts hin5 hown hK hM 0 (by decide) rfl rfl 1 (by decide) (hts (.fieldLink RX5 19 "MixedBlocks" "history" "LMixedBlocks$History;") (List.mem_of_getElem? (i := 3) rfl)) (fun _ h9 => h9) rfl dX5_sendAll_18 ?_
    refine lv_aload_n hx hb dX5_sendAll_21 rfl (lv_at hl 0 rfl) ?_
    refine w_get (C := RX5) (T := TX5) (N := 7) (ci := 5) (v := .ref ((g 8))) hx hb hts hin5 hown hK hM 0 (by decide) rfl rfl 0 (by decide) (hts (.fieldLink RX5 12 "MixedBlocks" "now" "LMixedBlocks$State;") (List.mem_of_getElem? (i := 4) rfl)) (fun _ h9 => h9) rfl dX5_sendAll_22 ?_
    refine va_callv (va_runV (As := [.ref ((g 8))]) (rest := []) ⟨hx, hb, hml, hown, hts⟩ (c_X1_keep l E (off g 20) ol ke zs (off g 8) z.1 z.2.1 z.2.2.1 z.2.2.2 (off_I hI (by decide)) (off_I hI (by decide)) (off_X hI (by decide) (by decide) (by decide)) hol hke) (cwV 1 hts gX5_sendAll_X1_keep rfl rfl rfl (by decide +kernel) ⟨Nat.le_of_ble_eq_true rfl, Nat.le_of_ble_eq_true rfl⟩) ⟨wS.blind, (w_recv hK hHi 0 (by decide) rfl (ci := 1) rfl), fun U hU hW => wS.go ⟨hHi, hHs, hN⟩ hK wI0 hU hW⟩ rfl rfl hl.1 rfl (lv_room (Nat.le_of_ble_eq_true rfl)) dX5_sendAll_25 ⟨Nat.le_of_ble_eq_true rfl, Nat.le_of_ble_eq_true rfl⟩) hS (fun q _ h => (off_in2 (o := 20) (n := 74) (o2 := 8) (n2 := 12) (by decide) (by decide)) q h) (off_in2 (o := 20) (n := 74) (o2 := 8) (n2 := 12) (by decide) (by decide)) (fun uu t H_3 locs_3 ht hvm hw hB hz1 hk1 hS => ?_)
    rw [ht] at hB
    obtain ⟨hHi, hHs, hN⟩ := hB
    have hHs : hiS E (off g 20) (va_up zs ((ol + ke) % 6) z) H_3 := hHs
    obtain ⟨hol2, hke2, hzs2⟩ := pushH_ok (z := z) hol hke hzs ⟨hnb2, hnb⟩
    have hM := hM.other hk1 ((off_M hI (by decide) (by decide)).out2 (off_M hI (by decide) (by decide)))
    have hPa := hPa.other hk1 ((off_X hI (by decide) (by decide) (by decide)).out2 (off_X hI (by decide) (by decide) (by decide)))
    have hEl := hEl.other hk1 ((off_X hI (by decide) (by decide) (by decide)).out2 (off_X hI (by decide) (by decide) (by decide)))
    have hTr := hTr.other hk1 ((off_X hI (by decide) (by decide) (by decide)).out2 (off_X hI (by decide) (by decide) (by decide)))
    refine lv_iconst (v := 0) hx hb dX5_sendAll_28 (by decide) ?_
    refine lv_istore_n (lv' := [(1, .int 0), (0, .ref ((g 0)))]) hx hb dX5_sendAll_29 rfl hl (by decide) rfl (fun ls hl => ?_)
    refine lv_aload_n hx hb dX5_sendAll_30 rfl (lv_at hl 1 rfl) ?_
    refine w_get (C := RX5) (T := TX5) (N := 7) (ci := 5) (v := .ref ((g 2))) hx hb hts hin5 hown hK hM 0 (by decide) rfl rfl 4 (by decide) (hts (.fieldLink RX5 34 "MixedBlocks" "part" "LMixedBlocks$Part;") (List.mem_of_getElem? (i := 5) rfl)) (fun _ h9 => h9) rfl dX5_sendAll_31 ?_
    refine va_callv (va_runV (As := []) (rest := []) ⟨hx, hb, hml, hown, hts⟩ (c_X2_begin l E (off g 2) pa.1 pa.2.1 pa.2.2) (cwV 0 hts gX5_sendAll_X2_begin rfl rfl rfl (by decide +kernel) ⟨Nat.le_of_ble_eq_true rfl, Nat.le_of_ble_eq_true rfl⟩) ⟨wS.blind, (w_recv hK hPa 0 (by decide) rfl (ci := 2) rfl), fun U hU hW => wS.go hPa hK (off_I hI (by decide)) hU hW⟩ rfl rfl hl.1 rfl (lv_room (Nat.le_of_ble_eq_true rfl)) dX5_sendAll_34 ⟨Nat.le_of_ble_eq_true rfl, Nat.le_of_ble_eq_true rfl⟩) hS (fun q _ h => (off_in (o := 2) (n := 1) (by decide)) q h) (off_in (o := 2) (n := 1) (by decide)) (fun uu t H_4 locs_4 ht hvm hw hB hz1 hk1 hS => ?_)
    rw [ht] at hB
    have hPa : wP E 1 (off g 2) (paF (-1) 0 0) H_4 := hB
    have hM := hM.other hk1 (off_M hI (by decide) (by decide)).out
    have hEl := hEl.other hk1 (off_X hI (by decide) (by decide) (by decide)).out
    have hTr := hTr.other hk1 (off_X hI (by decide) (by decide) (by decide)).out
    have hN := hN.other hk1 (off_X hI (by decide) (by decide) (by decide)).out
    have hHi := hHi.other hk1 (off_X hI (by decide) (by decide) (by decide)).out
    have hHs := hHs.other hk1 (off_X hI (by decide) (by decide) (by decide)).out
    refine lv_iconst (v := 0) hx hb dX5_sendAll_37 (by decide) ?_
    refine lv_istore_n (lv' := [(2, .int 0), (1, .int 0), (0, .ref ((g 0)))]) hx hb dX5_sendAll_38 rfl hl (by decide) rfl (fun ls hl => ?_)
    have L39 : ∀ (k : Nat) (i sn : Nat) (q : PA) (zz : SS) (ol2 : Nat) (zs2 : Nat → SS) (el2 : ES) (tli2 : Bool) (tq2 : RS) (H : Heap) (locs : List Loc) (ls : Array Slot), i + k = ln → sn ≤ 100 → paOK q → (ol2 < 6 ∧ kpK ke ≤ 6 ∧ (∀ j, j < kpK ke → zs2 ((ol2 + j) % 6) = pushH ke hs z j ∧ 2 ≤ (pushH ke hs z j).1 ∧ (pushH ke hs z j).1 ≤ 12) ∧ ln ≤ 60 ∧ 2 ≤ zz.1 ∧ zz.1 ≤ 12) → saS cd k i (sn, q, zz) = saS cd ln 0 (0, (-1, 0, 0), z) → wP E 2 g (mbF E g ln bf) H → wP E 1 (off g 2) (paF q.1 q.2.1 q.2.2) H → wP E 2 (off g 3) (elF E (off g 3) el2.1 el2.2) H → rcT E (off g 5) tli2 tq2 H → stP E (off g 8) zz.1 zz.2.1 zz.2.2.1 zz.2.2.2 H → wP E 2 (off g 20) (hiF E (off g 20) ol2 (kpK ke)) H → hiS E (off g 20) zs2 H → va_S (wF 94 g) s.heap H locs → lv_has ls 3 [(1, .int (nI sn)), (2, .int (nI i)), (0, .ref ((g 0)))] → W p l e (headSpec wsX5_sendAll ({ frames := 7, cells := 1, slots := 6, locals := 174 })).room s m ([.ref ((g 0))] : List Value).toArray below meth c H locs 0 0 (vx_MQ below (va_Qi (fun (r : Int32) (_ : Unit) => r = nI (saZ cd ln z).1) (fun _ t => ctS cd ln = true ∧ MB E g 0 bf (saZ cd ln z).2.2 (kpK ke) (pushH ke hs z) (t.heap)) (wF 94 g)) (vx_X (S := Unit) (fun _ => True) (fun Ex _ t => Ex = "java/lang/IllegalArgumentException" ∧ ¬ ctS cd ln = true ∧ MB E g ln bf z ke hs (t.heap)) (wF 94 g)) ([.ref ((g 0))] : List Value).toArray s 1 6 (wF 94 g)) (F0 m 39 ls []) := by
      intro k
      induction k with
      | zero =>
        intro i sn q zz ol2 zs2 el2 tli2 tq2 H locs ls hi hsn hq hrg hres hM hPa hEl hTr hN hHi hHs hS hl
        refine lv_iload_n hx hb dX5_sendAll_39 rfl (lv_at hl 1 rfl) ?_
        refine lv_aload_n hx hb dX5_sendAll_40 rfl (lv_at hl 2 rfl) ?_
        refine w_get (C := RX5) (T := TX5) (N := 7) (ci := 5) (v := .int (nI ln)) hx hb hts hin5 hown hK hM 0 (by decide) rfl rfl 3 (by decide) (hts (.fieldLink RX5 27 "MixedBlocks" "length" "I") (List.mem_of_getElem? (i := 6) rfl)) (fun _ h9 => h9) rfl dX5_sendAll_41 ?_
        refine lv_icmp_ge (tgt := 98) hx hb dX5_sendAll_44 (by decide) (fun c_5 => ?_) (fun c_5 => ?_)
        · have n_5 : ln ≤ i := (nI_leI (a := ln) (b := i) (by omega) (by omega)).mp c_5
          refine lv_iload_n hx hb dX5_sendAll_98 rfl (lv_at hl 0 rfl) ?_
          refine lv_aload_n hx hb dX5_sendAll_99 rfl (lv_at hl 2 rfl) ?_
          refine lv_bipush (v := 100) hx hb dX5_sendAll_100 (by decide) ?_
          refine lv_iload_n hx hb dX5_sendAll_102 rfl (lv_at hl 0 rfl) ?_
          refine lv_isub hx hb dX5_sendAll_103 ?_
          rw [show 100 - (nI sn) = nI (100 - sn) from pk_sub (a := 100) (b := sn) (by omega)]
          have hsp := spN_le q (100 - sn)
          refine va_calli (va_runV (As := [.int (nI (100 - sn))]) (rest := [.int (nI sn)]) ⟨hx, hb, hml, hown, hts⟩ (c_X5_sendPart l E g ln bf zz (kpK ke) (pushH ke hs z) (100 - sn) (by omega) q hq) (cwV 1 hts gX5_sendAll_X5_sendPart rfl rfl rfl (by decide +kernel) ⟨Nat.le_of_ble_eq_true rfl, Nat.le_of_ble_eq_true rfl⟩) ⟨wSd.blind, (w_recv hK hM 0 (by decide) rfl (ci := 5) rfl), fun U hU hW => wSd.go ⟨ol2, zs2, hrg, hM, ⟨hPa, ⟨(el2.1, el2.2), hEl⟩, ⟨tli2, tq2, hTr⟩⟩, hN, hHi, hHs⟩ hK hI hdg hS (fun q h => h) hU hW⟩ rfl rfl hl.1 rfl (lv_room (Nat.le_of_ble_eq_true rfl)) dX5_sendAll_104 ⟨Nat.le_of_ble_eq_true rfl, Nat.le_of_ble_eq_true rfl⟩) hS (fun q _ h => h) (fun q h => h) (fun r_6 uu t H_6 locs_6 ht hvm hw hB hz1 hk1 hS => ?_)
          rw [ht] at hB
          obtain ⟨ol3, zs3, hrg3, hM, ⟨hPa, ⟨el3, hEl⟩, ⟨tli3, tq3, hTr⟩⟩, hN, hHi, hHs⟩ := hB
          have hN : stP E (off g 8) (spZ (spN q (100 - sn)) (fmN q) zz).1 (spZ (spN q (100 - sn)) (fmN q) zz).2.1 (spZ (spN q (100 - sn)) (fmN q) zz).2.2.1 (spZ (spN q (100 - sn)) (fmN q) zz).2.2.2 _ := hN
          obtain rfl : r_6 = (nI (spN q (100 - sn))) := hw
          refine lv_iadd hx hb dX5_sendAll_107 ?_
          rw [show (nI sn) + (nI (spN q (100 - sn))) = nI (sn + (spN q (100 - sn))) from nI_add _ _]
          refine lv_istore_n (lv' := [(1, .int (nI (sn + (spN q (100 - sn))))), (2, .int (nI i)), (0, .ref ((g 0)))]) hx hb dX5_sendAll_108 rfl hl (by decide) rfl (fun ls hl => ?_)
          refine lv_aload_n hx hb dX5_sendAll_109 rfl (lv_at hl 2 rfl) ?_
          refine lv_iconst (v := 0) hx hb dX5_sendAll_110 (by decide) ?_
          refine w_putO (C := RX5) (T := TX5) (N := 7) (ci := 5) (v := .int 0) (ty := .int) hx hb hts hin5 tyX5 tyX5_ok nmX5 hown hK hM (hI.le (by decide)) (fun k hk => wF_in k (by omega)) hS 0 (by decide) rfl rfl 3 (by decide) (hts (.fieldLink RX5 27 "MixedBlocks" "length" "I") (List.mem_of_getElem? (i := 6) rfl)) (fun _ h9 => h9) rfl (by decide +kernel) rfl rfl (Nat.le_of_ble_eq_true rfl) dX5_sendAll_111 (mbF E g 0 bf) rfl mb_ne0 (fun H_7 locs_7 hM hO hS => ?_)
          have hPa := hPa.keep (fun k hk => hO _ (fun e => absurd (hI (2 + k) 0 (by omega) (by decide) e) (by omega)))
          have hEl := hEl.keep (fun k hk => hO _ (fun e => absurd (hI (3 + k) 0 (by omega) (by decide) e) (by omega)))
          have hTr := hTr.keep (fun k hk => hO _ (fun e => absurd (hI (5 + k) 0 (by omega) (by decide) e) (by omega)))
          have hN := hN.keep (fun k hk => hO _ (fun e => absurd (hI (8 + k) 0 (by omega) (by decide) e) (by omega)))
          have hHi := hHi.keep (fun k hk => hO _ (fun e => absurd (hI (20 + k) 0 (by omega) (by decide) e) (by omega)))
          have hHs := hHs.keep (fun k hk => hO _ (fun e => absurd (hI (20 + k) 0 (by omega) (by decide) e) (by omega)))
          refine lv_iload_n hx hb dX5_sendAll_114 rfl (lv_at hl 0 rfl) ?_
          refine vx_ret ?_
          refine W.widen (k := 1) (n := 6) (Nat.le_of_ble_eq_true rfl) (Nat.le_of_ble_eq_true rfl) ?_
          have hfin : saZ cd ln z = (sn + (spN q (100 - sn)), q, (spZ (spN q (100 - sn)) (fmN q) zz)) := by unfold saZ; rw [← hres]; rfl
          exact W.iret (v := (nI (sn + (spN q (100 - sn))))) hx hb hr (fun t ht hW => ⟨⟨_, (), rfl, (by show _ = _; rw [hfin]), (by show ctS cd ln = true ∧ MB E g 0 bf (saZ cd ln z).2.2 (kpK ke) (pushH ke hs z) t.heap; rw [ht, hfin]; exact ⟨bI_1 c_2, ⟨ol3, zs3, ⟨hrg3.1, hrg3.2.1, hrg3.2.2.1, Nat.zero_le _, hrg3.2.2.2.2.1, hrg3.2.2.2.2.2⟩, hM, ⟨⟨(q.1, q.2.1, q.2.2), hPa⟩, ⟨(el3.1, el3.2), hEl⟩, ⟨tli3, tq3, hTr⟩⟩, hN, hHi, hHs⟩⟩)⟩, hS.F ht⟩) hS.2.2 dX5_sendAll_115
        · have n_5 : ¬ ln ≤ i := fun z => c_5 ((nI_leI (a := ln) (b := i) (by omega) (by omega)).mpr z)
          exfalso
          omega
      | succ k ih =>
        intro i sn q zz ol2 zs2 el2 tli2 tq2 H locs ls hi hsn hq hrg hres hM hPa hEl hTr hN hHi hHs hS hl
        refine lv_iload_n hx hb dX5_sendAll_39 rfl (lv_at hl 1 rfl) ?_
        refine lv_aload_n hx hb dX5_sendAll_40 rfl (lv_at hl 2 rfl) ?_
        refine w_get (C := RX5) (T := TX5) (N := 7) (ci := 5) (v := .int (nI ln)) hx hb hts hin5 hown hK hM 0 (by decide) rfl rfl 3 (by decide) (hts (.fieldLink RX5 27 "MixedBlocks" "length" "I") (List.mem_of_getElem? (i := 6) rfl)) (fun _ h9 => h9) rfl dX5_sendAll_41 ?_
        refine lv_icmp_ge (tgt := 98) hx hb dX5_sendAll_44 (by decide) (fun c_8 => ?_) (fun c_8 => ?_)
        · have n_8 : ln ≤ i := (nI_leI (a := ln) (b := i) (by omega) (by omega)).mp c_8
          exfalso
          omega
        · have n_8 : ¬ ln ≤ i := fun z => c_8 ((nI_leI (a := ln) (b := i) (by omega) (by omega)).mpr z)
          refine lv_iload_n hx hb dX5_sendAll_47 rfl (lv_at hl 1 rfl) ?_
          refine lv_aload_n hx hb dX5_sendAll_48 rfl (lv_at hl 2 rfl) ?_
          refine w_get (C := RX5) (T := TX5) (N := 7) (ci := 5) (v := .ref ((g 1))) hx hb hts hin5 hown hK hM 0 (by decide) rfl rfl 2 (by decide) (hts (.fieldLink RX5 23 "MixedBlocks" "buffer" "[I") (List.mem_of_getElem? (i := 7) rfl)) (fun _ h9 => h9) rfl dX5_sendAll_49 ?_
          refine w_alen (v := 60) hx hb hK hM 1 (by decide) rfl rfl dX5_sendAll_52 ?_
          refine lv_icmp_ge (tgt := 98) hx hb dX5_sendAll_53 (by decide) (fun c_9 => ?_) (fun c_9 => ?_)
          · have n_9 : 60 ≤ i := (nI_leI (a := 60) (b := i) (by omega) (by omega)).mp c_9
            exfalso
            omega
          · have n_9 : ¬ 60 ≤ i := fun z => c_9 ((nI_leI (a := 60) (b := i) (by omega) (by omega)).mpr z)
            refine lv_aload_n hx hb dX5_sendAll_56 rfl (lv_at hl 2 rfl) ?_
            refine w_get (C := RX5) (T := TX5) (N := 7) (ci := 5) (v := .ref ((g 1))) hx hb hts hin5 hown hK hM 0 (by decide) rfl rfl 2 (by decide) (hts (.fieldLink RX5 23 "MixedBlocks" "buffer" "[I") (List.mem_of_getElem? (i := 7) rfl)) (fun _ h9 => h9) rfl dX5_sendAll_57 ?_
            refine lv_iload_n hx hb dX5_sendAll_60 rfl (lv_at hl 1 rfl) ?_
            refine w_iald hx hb hK hM 1 (by decide) rfl (vp_in_nI (by omega) (by decide)) dX5_sendAll_61 ?_
            rw [nI_clamp (by omega)]
            rw [hbf i (by omega)]
            have hcd := hcs i (by omega)
            refine lv_bipush (v := 44) hx hb dX5_sendAll_62 (by decide) ?_
            refine lv_icmp_ne (tgt := 78) hx hb dX5_sendAll_64 (by decide) (fun c_10 => ?_) (fun c_10 => ?_)
            · have h44 : ¬ cd i = 44 := fun y => c_10 (by rw [y]; rfl)
              refine lv_aload_n hx hb dX5_sendAll_78 rfl (lv_at hl 2 rfl) ?_
              refine w_get (C := RX5) (T := TX5) (N := 7) (ci := 5) (v := .ref ((g 2))) hx hb hts hin5 hown hK hM 0 (by decide) rfl rfl 4 (by decide) (hts (.fieldLink RX5 34 "MixedBlocks" "part" "LMixedBlocks$Part;") (List.mem_of_getElem? (i := 5) rfl)) (fun _ h9 => h9) rfl dX5_sendAll_79 ?_
              refine lv_aload_n hx hb dX5_sendAll_82 rfl (lv_at hl 2 rfl) ?_
              refine w_get (C := RX5) (T := TX5) (N := 7) (ci := 5) (v := .ref ((g 1))) hx hb hts hin5 hown hK hM 0 (by decide) rfl rfl 2 (by decide) (hts (.fieldLink RX5 23 "MixedBlocks" "buffer" "[I") (List.mem_of_getElem? (i := 7) rfl)) (fun _ h9 => h9) rfl dX5_sendAll_83 ?_
              refine lv_iload_n hx hb dX5_sendAll_86 rfl (lv_at hl 1 rfl) ?_
              refine w_iald hx hb hK hM 1 (by decide) rfl (vp_in_nI (by omega) (by decide)) dX5_sendAll_87 ?_
              rw [nI_clamp (by omega)]
              rw [hbf i (by omega)]
              have hcd := hcs i (by omega)
              refine va_calli (va_runV (As := [.int (nI (cd i))]) (rest := []) ⟨hx, hb, hml, hown, hts⟩ (c_X2_takes l E (off g 2) q.1 q.2.1 q.2.2 (cd i) (hcs i (by omega)) hq.le hq.2.1) (cwV 1 hts gX5_sendAll_X2_takes rfl rfl rfl (by decide +kernel) ⟨Nat.le_of_ble_eq_true rfl, Nat.le_of_ble_eq_true rfl⟩) ⟨wS.blind, (w_recv hK hPa 0 (by decide) rfl (ci := 2) rfl), fun U hU hW => wS.go hPa hK (off_I hI (by decide)) hU hW⟩ rfl rfl hl.1 rfl (lv_room (Nat.le_of_ble_eq_true rfl)) dX5_sendAll_88 ⟨Nat.le_of_ble_eq_true rfl, Nat.le_of_ble_eq_true rfl⟩) hS (fun q _ h => (off_in (o := 2) (n := 1) (by decide)) q h) (off_in (o := 2) (n := 1) (by decide)) (fun r_11 uu t H_11 locs_11 ht hvm hw hB hz1 hk1 hS => ?_)
              rw [ht] at hB
              have hPa : wP E 1 (off g 2) (paF (tkS q (cd i)).2.1 (tkS q (cd i)).2.2.1 (tkS q (cd i)).2.2.2) H_11 := hB
              have hM := hM.other hk1 (off_M hI (by decide) (by decide)).out
              have hEl := hEl.other hk1 (off_X hI (by decide) (by decide) (by decide)).out
              have hTr := hTr.other hk1 (off_X hI (by decide) (by decide) (by decide)).out
              have hN := hN.other hk1 (off_X hI (by decide) (by decide) (by decide)).out
              have hHi := hHi.other hk1 (off_X hI (by decide) (by decide) (by decide)).out
              have hHs := hHs.other hk1 (off_X hI (by decide) (by decide) (by decide)).out
              obtain rfl : r_11 = (bI (tkS q (cd i)).1) := hw
              refine lv_pop hx hb dX5_sendAll_91 rfl ?_
              refine lv_iinc (v := (nI (i + 1))) (lv' := [(2, .int (nI (i + 1))), (1, .int (nI sn)), (0, .ref ((g 0)))]) hx hb dX5_sendAll_92 hl (k := 1) rfl (nI_1 _) (by decide) rfl (fun ls hl => ?_)
              refine lv_goto (tgt := 39) hx hb dX5_sendAll_95 (by decide) ?_
              have hres2 : saS cd k (i + 1) (sn, (tkS q (cd i)).2, zz) = saS cd ln 0 (0, (-1, 0, 0), z) := by rw [← hres, saS, if_neg h44]
              exact ih (i + 1) sn (tkS q (cd i)).2 zz ol2 zs2 el2 tli2 tq2 _ _ ls (by omega) hsn (tkS_ok hq) hrg hres2 hM hPa hEl hTr hN hHi hHs hS (lv_sub hl [1, 0, 2] rfl)
            · have h44 : cd i = 44 := (nI_eq (a := cd i) (b := 44) (by omega) (by omega)).mp c_10
              refine lv_iload_n hx hb dX5_sendAll_67 rfl (lv_at hl 0 rfl) ?_
              refine lv_aload_n hx hb dX5_sendAll_68 rfl (lv_at hl 2 rfl) ?_
              refine lv_bipush (v := 100) hx hb dX5_sendAll_69 (by decide) ?_
              refine lv_iload_n hx hb dX5_sendAll_71 rfl (lv_at hl 0 rfl) ?_
              refine lv_isub hx hb dX5_sendAll_72 ?_
              rw [show 100 - (nI sn) = nI (100 - sn) from pk_sub (a := 100) (b := sn) (by omega)]
              have hsp := spN_le q (100 - sn)
              refine va_calli (va_runV (As := [.int (nI (100 - sn))]) (rest := [.int (nI sn)]) ⟨hx, hb, hml, hown, hts⟩ (c_X5_sendPart l E g ln bf zz (kpK ke) (pushH ke hs z) (100 - sn) (by omega) q hq) (cwV 1 hts gX5_sendAll_X5_sendPart rfl rfl rfl (by decide +kernel) ⟨Nat.le_of_ble_eq_true rfl, Nat.le_of_ble_eq_true rfl⟩) ⟨wSd.blind, (w_recv hK hM 0 (by decide) rfl (ci := 5) rfl), fun U hU hW => wSd.go ⟨ol2, zs2, hrg, hM, ⟨hPa, ⟨(el2.1, el2.2), hEl⟩, ⟨tli2, tq2, hTr⟩⟩, hN, hHi, hHs⟩ hK hI hdg hS (fun q h => h) hU hW⟩ rfl rfl hl.1 rfl (lv_room (Nat.le_of_ble_eq_true rfl)) dX5_sendAll_73 ⟨Nat.le_of_ble_eq_true rfl, Nat.le_of_ble_eq_true rfl⟩) hS (fun q _ h => h) (fun q h => h) (fun r_12 uu t H_12 locs_12 ht hvm hw hB hz1 hk1 hS => ?_)
              rw [ht] at hB
              obtain ⟨ol3, zs3, hrg3, hM, ⟨hPa, ⟨el3, hEl⟩, ⟨tli3, tq3, hTr⟩⟩, hN, hHi, hHs⟩ := hB
              have hN : stP E (off g 8) (spZ (spN q (100 - sn)) (fmN q) zz).1 (spZ (spN q (100 - sn)) (fmN q) zz).2.1 (spZ (spN q (100 - sn)) (fmN q) zz).2.2.1 (spZ (spN q (100 - sn)) (fmN q) zz).2.2.2 _ := hN
              obtain rfl : r_12 = (nI (spN q (100 - sn))) := hw
              refine lv_iadd hx hb dX5_sendAll_76 ?_
              rw [show (nI sn) + (nI (spN q (100 - sn))) = nI (sn + (spN q (100 - sn))) from nI_add _ _]
              refine lv_istore_n (lv' := [(1, .int (nI (sn + (spN q (100 - sn))))), (2, .int (nI i)), (0, .ref ((g 0)))]) hx hb dX5_sendAll_77 rfl hl (by decide) rfl (fun ls hl => ?_)
              refine lv_aload_n hx hb dX5_sendAll_78 rfl (lv_at hl 2 rfl) ?_
              refine w_get (C := RX5) (T := TX5) (N := 7) (ci := 5) (v := .ref ((g 2))) hx hb hts hin5 hown hK hM 0 (by decide) rfl rfl 4 (by decide) (hts (.fieldLink RX5 34 "MixedBlocks" "part" "LMixedBlocks$Part;") (List.mem_of_getElem? (i := 5) rfl)) (fun _ h9 => h9) rfl dX5_sendAll_79 ?_
              refine lv_aload_n hx hb dX5_sendAll_82 rfl (lv_at hl 2 rfl) ?_
              refine w_get (C := RX5) (T := TX5) (N := 7) (ci := 5) (v := .ref ((g 1))) hx hb hts hin5 hown hK hM 0 (by decide) rfl rfl 2 (by decide) (hts (.fieldLink RX5 23 "MixedBlocks" "buffer" "[I") (List.mem_of_getElem? (i := 7) rfl)) (fun _ h9 => h9) rfl dX5_sendAll_83 ?_
              refine lv_iload_n hx hb dX5_sendAll_86 rfl (lv_at hl 1 rfl) ?_
              refine w_iald hx hb hK hM 1 (by decide) rfl (vp_in_nI (by omega) (by decide)) dX5_sendAll_87 ?_
              rw [nI_clamp (by omega)]
              rw [hbf i (by omega)]
              have hcd := hcs i (by omega)
              refine va_calli (va_runV (As := [.int (nI (cd i))]) (rest := []) ⟨hx, hb, hml, hown, hts⟩ (c_X2_takes l E (off g 2) q.1 q.2.1 q.2.2 (cd i) (hcs i (by omega)) hq.le hq.2.1) (cwV 1 hts gX5_sendAll_X2_takes rfl rfl rfl (by decide +kernel) ⟨Nat.le_of_ble_eq_true rfl, Nat.le_of_ble_eq_true rfl⟩) ⟨wS.blind, (w_recv hK hPa 0 (by decide) rfl (ci := 2) rfl), fun U hU hW => wS.go hPa hK (off_I hI (by decide)) hU hW⟩ rfl rfl hl.1 rfl (lv_room (Nat.le_of_ble_eq_true rfl)) dX5_sendAll_88 ⟨Nat.le_of_ble_eq_true rfl, Nat.le_of_ble_eq_true rfl⟩) hS (fun q _ h => (off_in (o := 2) (n := 1) (by decide)) q h) (off_in (o := 2) (n := 1) (by decide)) (fun r_13 uu t H_13 locs_13 ht hvm hw hB hz1 hk1 hS => ?_)
              rw [ht] at hB
              have hPa : wP E 1 (off g 2) (paF (tkS q (cd i)).2.1 (tkS q (cd i)).2.2.1 (tkS q (cd i)).2.2.2) H_13 := hB
              have hM := hM.other hk1 (off_M hI (by decide) (by decide)).out
              have hEl := hEl.other hk1 (off_X hI (by decide) (by decide) (by decide)).out
              have hTr := hTr.other hk1 (off_X hI (by decide) (by decide) (by decide)).out
              have hN := hN.other hk1 (off_X hI (by decide) (by decide) (by decide)).out
              have hHi := hHi.other hk1 (off_X hI (by decide) (by decide) (by decide)).out
              have hHs := hHs.other hk1 (off_X hI (by decide) (by decide) (by decide)).out
              obtain rfl : r_13 = (bI (tkS q (cd i)).1) := hw
              refine lv_pop hx hb dX5_sendAll_91 rfl ?_
              refine lv_iinc (v := (nI (i + 1))) (lv' := [(2, .int (nI (i + 1))), (1, .int (nI (sn + (spN q (100 - sn))))), (0, .ref ((g 0)))]) hx hb dX5_sendAll_92 hl (k := 1) rfl (nI_1 _) (by decide) rfl (fun ls hl => ?_)
              refine lv_goto (tgt := 39) hx hb dX5_sendAll_95 (by decide) ?_
              have hres2 : saS cd k (i + 1) (sn + (spN q (100 - sn)), (tkS q (cd i)).2, (spZ (spN q (100 - sn)) (fmN q) zz)) = saS cd ln 0 (0, (-1, 0, 0), z) := by rw [← hres, saS, if_pos h44]; rfl
              exact ih (i + 1) (sn + (spN q (100 - sn))) (tkS q (cd i)).2 (spZ (spN q (100 - sn)) (fmN q) zz) ol3 zs3 el3 tli3 tq3 _ _ ls (by omega) (by omega) (tkS_ok hq) hrg3 hres2 hM hPa hEl hTr hN hHi hHs hS (lv_sub hl [1, 0, 2] rfl)
    exact L39 ln 0 0 (-1, 0, 0) z (kpO ol ke) (va_up zs ((ol + ke) % 6) z) (el.1, el.2) tli tq _ _ ls (by omega) (by omega) paOK_0 ⟨hol2, hke2, hzs2, hln, hnb2, hnb⟩ rfl hM hPa hEl hTr hN hHi hHs hS (lv_sub hl [1, 0, 2] rfl)
  · exact w_throw hx hb hst hown (by decide +kernel) (hts (.classLink RX5 52 "java/lang/IllegalArgumentException") (List.mem_of_getElem? (i := 1) rfl)) (hts (.initialized "java/lang/IllegalArgumentException") (List.mem_of_getElem? (i := 2) rfl)) (List.mem_of_getElem? (i := 7) rfl) (fun w h => hts w (List.mem_cons_of_mem _ (List.mem_append_right _ h))) xb56 xo56 hxe hS (hl.1.trans hml.symm) dX5_sendAll_7 dX5_sendAll_10 dX5_sendAll_11 dX5_sendAll_13 dX5_sendAll_16 hno (Nat.le_of_ble_eq_true rfl) (Nat.le_of_ble_eq_true rfl) (Nat.le_of_ble_eq_true rfl) (Nat.le_of_ble_eq_true rfl) hlocks (fun t h1 h2 => ⟨(), trivial, ⟨rfl, (fun y => absurd (y.symm.trans (bI_0 c_2)) (by decide)), MB.new ⟨ol, zs, ⟨hol, hke, hzs, hln, hnb2, hnb⟩, hM, ⟨⟨(pa.1, pa.2.1, pa.2.2), hPa⟩, ⟨(el.1, el.2), hEl⟩, ⟨tli, tq, hTr⟩⟩, hN, hHi, hHs⟩ h1⟩, h2⟩) hS.2.2 (Nat.le_of_ble_eq_true rfl) (Nat.le_of_ble_eq_true rfl)

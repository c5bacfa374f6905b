set_option maxHeartbeats 4000000 in
set_option maxRecDepth 100000 in
theorem law_turn {p : Program} {l : Launch} {e : Env} {s : State} {m : MethodId} {below : List Frame} {meth : Method} {c : Code} {H : Heap} {locs : List Loc} {Q : State → Prop} {ls : Array Slot} {b L : Nat} {xs : Nat → Int32} {E : wE} {g : Nat → Nat} {c0 s0 : Nat} (C : LC p l s m c b L xs E g) {e9 : Nat} (he : e9 < 56) {B : Nat} {z : SS} {y : MS} {ke : Nat} {hs : Nat → SS} (hz : RZ B z y) (hB9 : B ≤ 1000) (hc9 : c0 + 3132 ≤ 600130) (hs9 : s0 + 19422 ≤ 7301080) (hM : MB E g 0 (fun _ => 0) z ke hs H) (hS : va_S (lwA s) s.heap H locs) (hl : lv_has ls 9 [(3, .int (nI e9)), (2, .int (nI 0)), (1, .ref ((g 0))), (0, .ref b)])
    (kk : ∀ (H2 : Heap) (locs2 : List Loc) (ls2 : Array Slot) (z2 : SS) (y2 : MS) (ke2 : Nat) (hs2 : Nat → SS) (cells2 slots2 : Nat), RZ (B + 1) z2 y2 → MB E g 0 (fun _ => 0) z2 ke2 hs2 H2 → va_S (lwA s) s.heap H2 locs2 → lv_has ls2 9 [(3, .int (nI e9)), (2, .int (nI 0)), (1, .ref ((g 0))), (0, .ref b)] → cells2 ≤ c0 + 3132 → slots2 ≤ s0 + 19422 → W p l e room_1 s m #[Value.ref b] below meth c H2 locs2 cells2 slots2 Q (F0 m 207 ls2 [])) : W p l e room_1 s m #[Value.ref b] below meth c H locs c0 s0 Q (F0 m 39 ls []) := by
  have hx := C.hx
  have hb := C.hb
  have hml := C.hml
  have hown := C.hown
  have hts := C.hts
  have hst := C.hst
  have hK := C.hK
  have hI := C.hI
  have hxe := C.hxe
  have hcv : ∀ q, wF 94 g q → lwA s q := by rintro q ⟨k, hk, rfl⟩; exact C.hAg k hk
  refine lv_aload_n hx hb dL_law_39 rfl (lv_at hl 3 rfl) ?_
  refine lv_iload_n hx hb dL_law_40 rfl (lv_at hl 0 rfl) ?_
  refine va_calli (va_runS (As := [.ref b, .int (nI e9)]) (rest := []) ⟨hx, hb, hml, hown, hts⟩ (c_L_cell l b L e9 xs C.hL (by omega)) (va_cwS 2 hts gL_law_L_cell rfl rfl rfl (by decide +kernel) ⟨Nat.le_of_ble_eq_true rfl, Nat.le_of_ble_eq_true rfl⟩) ⟨cell_blind, fun U hU hW => cell_go C.hX C.hbl hS hU hW⟩ rfl rfl hl.1 rfl (lv_room (Nat.le_of_ble_eq_true rfl)) dL_law_41 ⟨(show c0 + 0 ≤ 600130 by omega), (show s0 + 0 ≤ 7301080 by omega)⟩) hS (fun q _ h => (fun q h => h.elim) q h) (fun q h => h.elim) (fun r_1 uu t H_1 locs_1 ht hvm hw hB hzq hk1 hS => ?_)
  have hM := hM.keep (fun q hq => hk1 q hq (fun z9 => z9))
  obtain ⟨v, ev⟩ : ∃ v, v = r_1 := ⟨_, rfl⟩
  rw [← ev]
  refine lv_istore (lv' := [(4, .int v), (3, .int (nI e9)), (2, .int (nI 0)), (1, .ref ((g 0))), (0, .ref b)]) hx hb dL_law_44 hl (by decide) rfl (fun ls hl => ?_)
  refine lv_iload hx hb dL_law_46 (lv_at hl 0 rfl) ?_
  refine lv_bipush (v := (nI 15)) hx hb dL_law_48 (by decide) ?_
  refine lv_iand hx hb dL_law_50 ?_
  obtain ⟨a, ha, ea⟩ := and_few (v := v) (k := 15) (by decide)
  rw [ea]
  refine lv_istore (lv' := [(5, .int (nI a)), (4, .int v), (3, .int (nI e9)), (2, .int (nI 0)), (1, .ref ((g 0))), (0, .ref b)]) hx hb dL_law_51 hl (by decide) rfl (fun ls hl => ?_)
  refine lv_aload_n hx hb dL_law_53 rfl (lv_at hl 4 rfl) ?_
  refine lv_iload hx hb dL_law_54 (lv_at hl 1 rfl) ?_
  refine va_calli (va_runS (As := [.ref ((g 0)), .int v]) (rest := []) ⟨hx, hb, hml, hown, hts⟩ (c_L_does l hst E g 0 (fun _ => 0) z ke hs hz v) (va_cwS 2 hts gL_law_L_does rfl rfl rfl (by decide +kernel) ⟨Nat.le_of_ble_eq_true rfl, Nat.le_of_ble_eq_true rfl⟩) ⟨wSx.blind, fun U hU hW => wSx.go hM hK hI hxe hS (fun q h => hcv q h) hU hW⟩ rfl rfl hl.1 rfl (lv_room (Nat.le_of_ble_eq_true rfl)) dL_law_56 ⟨(show c0 + 0 + 3 ≤ 600130 by omega), (show s0 + 0 + 18 ≤ 7301080 by omega)⟩) hS (fun q _ h => (fun q h => hcv q h) q h) (fun q h => hcv q h) (fun r_2 uu t H_2 locs_2 ht hvm hw hB hzq hk1 hS => ?_)
  rw [ht] at hB
  obtain ⟨z1, ke1, hs1⟩ := uu
  obtain ⟨hr0, y1, hz1, hf1⟩ := hw
  have hM : MB E g 0 (fun _ => 0) z1 ke1 hs1 _ := hB
  obtain ⟨got, eg⟩ : ∃ q9, q9 = r_2 := ⟨_, rfl⟩
  rw [← eg] at hr0 ⊢
  refine lv_istore (lv' := [(6, .int got), (5, .int (nI a)), (4, .int v), (3, .int (nI e9)), (2, .int (nI 0)), (1, .ref ((g 0))), (0, .ref b)]) hx hb dL_law_59 hl (by decide) rfl (fun ls hl => ?_)
  refine lv_iload hx hb dL_law_61 (lv_at hl 0 rfl) ?_
  refine lv_if_lt (tgt := 70) hx hb dL_law_63 (by decide) (fun c_3 => ?_) (fun c_3 => ?_)
  · exact absurd c_3 hr0
  · skip
    refine lv_iconst (v := (nI 1)) hx hb dL_law_66 (by decide) ?_
    refine lv_goto (tgt := 71) hx hb dL_law_67 (by decide) ?_
    refine lv_istore (lv' := [(7, .int (nI 1)), (6, .int got), (5, .int (nI a)), (4, .int v), (3, .int (nI e9)), (2, .int (nI 0)), (1, .ref ((g 0))), (0, .ref b)]) hx hb dL_law_71 hl (by decide) rfl (fun ls hl => ?_)
    refine lv_iconst (v := (nI 0)) hx hb dL_law_73 (by decide) ?_
    refine lv_istore (lv' := [(8, .int (nI 0)), (7, .int (nI 1)), (6, .int got), (5, .int (nI a)), (4, .int v), (3, .int (nI e9)), (2, .int (nI 0)), (1, .ref ((g 0))), (0, .ref b)]) hx hb dL_law_74 hl (by decide) rfl (fun ls hl => ?_)
    have L76 : ∀ (n : Nat) (r : Nat) (H : Heap) (locs : List Loc) (ls : Array Slot) (cells slots : Nat), r + n = 3 → cells + n * 757 ≤ c0 + 2274 → slots + n * 4542 ≤ s0 + 13644 → MB E g 0 (fun _ => 0) z1 ke1 hs1 H → va_S (lwA s) s.heap H locs → lv_has ls 9 [(8, .int (nI r)), (7, .int (nI 1)), (6, .int got), (5, .int (nI a)), (4, .int v), (3, .int (nI e9)), (2, .int (nI 0)), (1, .ref ((g 0))), (0, .ref b)] → W p l e room_1 s m #[Value.ref b] below meth c H locs (cells) (slots) Q (F0 m 76 ls []) := by
      intro n
      induction n with
      | zero =>
        intro r H locs ls cells slots hr3 hc9 hs9 hM hS hl
        refine lv_iload hx hb dL_law_76 (lv_at hl 0 rfl) ?_
        refine lv_iconst (v := (nI 3)) hx hb dL_law_78 (by decide) ?_
        refine lv_icmp_ge (tgt := 132) hx hb dL_law_79 (by decide) (fun c_4 => ?_) (fun c_4 => ?_)
        · skip
          have J170 : ∀ (ke2 : Nat) (hs2 : Nat → SS) (H : Heap) (locs : List Loc) (ls : Array Slot) (cells slots : Nat), cells ≤ c0 + 2658 → slots ≤ s0 + 15948 → MB E g 0 (fun _ => 0) z1 ke2 hs2 H → va_S (lwA s) s.heap H locs → lv_has ls 9 [(7, .int (nI 1)), (4, .int v), (3, .int (nI e9)), (2, .int (nI 0)), (1, .ref ((g 0))), (0, .ref b)] → W p l e room_1 s m #[Value.ref b] below meth c H locs (cells) (slots) Q (F0 m 170 ls []) := by
            intro ke2 hs2 H locs ls cells slots hc9 hs9 hM hS hl
            refine lv_iload_n hx hb dL_law_170 rfl (lv_at hl 2 rfl) ?_
            refine lv_bipush (v := (nI 8)) hx hb dL_law_171 (by decide) ?_
            refine lv_irem hx hb dL_law_173 (nI_ne0 (by omega) (by omega)) ?_
            rw [show nI e9 - nI e9 / nI 8 * nI 8 = nI (e9 % 8) from pk_rem (by omega) (by omega) (by omega)]
            refine lv_bipush (v := (nI 6)) hx hb dL_law_174 (by decide) ?_
            refine lv_icmp_ne (tgt := 207) hx hb dL_law_176 (by decide) (fun c_5 => ?_) (fun c_5 => ?_)
            · have f_c_5 : ¬ (e9 % 8) = 6 := fun z9 => c_5 ((nI_eq (a := (e9 % 8)) (b := 6) (by omega) (by omega)).mpr z9)
              exact kk _ _ ls _ _ _ _ _ _ hz1 hM hS (lv_sub hl [2, 3, 4, 5] rfl) (by omega) (by omega)
            · have f_c_5 : (e9 % 8) = 6 := (nI_eq (a := (e9 % 8)) (b := 6) (by omega) (by omega)).mp c_5
              refine lv_aload_n hx hb dL_law_179 rfl (lv_at hl 4 rfl) ?_
              refine lv_iload hx hb dL_law_180 (lv_at hl 1 rfl) ?_
              refine lv_iconst (v := (nI 5)) hx hb dL_law_182 (by decide) ?_
              refine lv_ishr hx hb dL_law_183 ?_
              refine lv_iconst (v := (nI 3)) hx hb dL_law_184 (by decide) ?_
              refine va_calli (va_runS (As := [.int ((v >>> ((nI 5) &&& 31))), .int (nI 3)]) (rest := [.ref ((g 0))]) ⟨hx, hb, hml, hown, hts⟩ (c_L_low l (v >>> ((nI 5) &&& 31)) 3 (by decide) (by decide)) (va_cwS 2 hts gL_law_L_low rfl rfl rfl (by decide +kernel) ⟨Nat.le_of_ble_eq_true rfl, Nat.le_of_ble_eq_true rfl⟩) ⟨wU_blind, fun U hU hW => ⟨rfl, trivial⟩⟩ rfl rfl hl.1 rfl (lv_room (Nat.le_of_ble_eq_true rfl)) dL_law_185 ⟨(show cells + 0 ≤ 600130 by omega), (show slots + 0 ≤ 7301080 by omega)⟩) hS (fun q _ h => (fun q h => h.elim) q h) (fun q h => h.elim) (fun r_6 uu t H_6 locs_6 ht hvm hw hB hzq hk1 hS => ?_)
              have hM := hM.keep (fun q hq => hk1 q hq (fun z9 => z9))
              obtain ⟨u2, hu2, eu2⟩ : ∃ q9, q9 < 3 ∧ r_6 = nI q9 := ⟨uu, hw.2, hw.1⟩
              subst eu2
              refine lv_iload hx hb dL_law_188 (lv_at hl 1 rfl) ?_
              refine lv_bipush (v := (nI 7)) hx hb dL_law_190 (by decide) ?_
              refine lv_ishr hx hb dL_law_192 ?_
              refine lv_sipush (v := (nI 9900)) hx hb dL_law_193 (by decide) ?_
              refine va_calli (va_runS (As := [.int ((v >>> ((nI 7) &&& 31))), .int (nI 9900)]) (rest := [.int (nI u2), .ref ((g 0))]) ⟨hx, hb, hml, hown, hts⟩ (c_L_low l (v >>> ((nI 7) &&& 31)) 9900 (by decide) (by decide)) (va_cwS 2 hts gL_law_L_low rfl rfl rfl (by decide +kernel) ⟨Nat.le_of_ble_eq_true rfl, Nat.le_of_ble_eq_true rfl⟩) ⟨wU_blind, fun U hU hW => ⟨rfl, trivial⟩⟩ rfl rfl hl.1 rfl (lv_room (Nat.le_of_ble_eq_true rfl)) dL_law_196 ⟨(show cells + 0 + 0 ≤ 600130 by omega), (show slots + 0 + 0 ≤ 7301080 by omega)⟩) hS (fun q _ h => (fun q h => h.elim) q h) (fun q h => h.elim) (fun r_7 uu t H_7 locs_7 ht hvm hw hB hzq hk1 hS => ?_)
              have hM := hM.keep (fun q hq => hk1 q hq (fun z9 => z9))
              obtain ⟨q2, hq2, eq2⟩ : ∃ q9, q9 < 9900 ∧ r_7 = nI q9 := ⟨uu, hw.2, hw.1⟩
              subst eq2
              have hcn : ∀ q, (wF 94 g q ∨ H_7.size ≤ q) → lwA s q := (fun q h => h.elim (hcv q) (fun h9 => show s.heap.size ≤ q by have h8 := hS.1; omega))
              refine va_calli (va_runS (As := [.ref ((g 0)), .int (nI u2), .int (nI q2)]) (rest := []) ⟨hx, hb, hml, hown, hts⟩ (c_L_isNeedSo l hst E g 0 (fun _ => 0) z1 ke2 hs2 hz1 (by omega) (u := u2) (k := q2) hu2 hq2 H_7.size) (va_cwS 3 hts gL_law_L_isNeedSo rfl rfl rfl (by decide +kernel) ⟨Nat.le_of_ble_eq_true rfl, Nat.le_of_ble_eq_true rfl⟩) ⟨wNd.blind, fun U hU hW => wNd.go hM hK hI hxe hS hcn C.hO3 C.hO4 hU hW⟩ rfl rfl hl.1 rfl (lv_room (Nat.le_of_ble_eq_true rfl)) dL_law_199 ⟨(show cells + 0 + 0 + 474 ≤ 600130 by omega), (show slots + 0 + 0 + 3474 ≤ 7301080 by omega)⟩) hS (fun q _ h => hcn q h) hcn (fun r_8 uu t H_8 locs_8 ht hvm hw hB hzq hk1 hS => ?_)
              rw [ht] at hB
              obtain ⟨ke3, hs3⟩ := uu
              have hM : MB E g 0 (fun _ => 0) z1 ke3 hs3 _ := hB
              rw [show r_8 = nI 1 from hw]
              refine lv_if_ne (tgt := 207) hx hb dL_law_202 (by decide) (fun c_9 => ?_) (fun c_9 => ?_)
              · skip
                exact kk _ _ ls _ _ _ _ _ _ hz1 hM hS (lv_sub hl [2, 3, 4, 5] rfl) (by omega) (by omega)
              · exact absurd c_9 (by decide)
          refine lv_iload hx hb dL_law_132 (lv_at hl 1 rfl) ?_
          refine lv_if_eq (tgt := 205) hx hb dL_law_134 (by decide) (fun c_10 => ?_) (fun c_10 => ?_)
          · exact absurd c_10 (by decide)
          · skip
            refine lv_iload_n hx hb dL_law_137 rfl (lv_at hl 5 rfl) ?_
            refine lv_iconst (v := (nI 4)) hx hb dL_law_138 (by decide) ?_
            refine lv_irem hx hb dL_law_139 (nI_ne0 (by omega) (by omega)) ?_
            rw [show nI e9 - nI e9 / nI 4 * nI 4 = nI (e9 % 4) from pk_rem (by omega) (by omega) (by omega)]
            refine lv_iconst (v := (nI 1)) hx hb dL_law_140 (by decide) ?_
            refine lv_icmp_ne (tgt := 170) hx hb dL_law_141 (by decide) (fun c_11 => ?_) (fun c_11 => ?_)
            · have f_c_11 : ¬ (e9 % 4) = 1 := fun z9 => c_11 ((nI_eq (a := (e9 % 4)) (b := 1) (by omega) (by omega)).mpr z9)
              exact J170 _ _ _ _ ls _ _ (by omega) (by omega) hM hS (lv_sub hl [1, 4, 5, 6, 7, 8] rfl)
            · have f_c_11 : (e9 % 4) = 1 := (nI_eq (a := (e9 % 4)) (b := 1) (by omega) (by omega)).mp c_11
              refine lv_aload_n hx hb dL_law_144 rfl (lv_at hl 7 rfl) ?_
              refine lv_iload hx hb dL_law_145 (lv_at hl 4 rfl) ?_
              refine lv_iconst (v := (nI 5)) hx hb dL_law_147 (by decide) ?_
              refine lv_ishr hx hb dL_law_148 ?_
              refine lv_iconst (v := (nI 3)) hx hb dL_law_149 (by decide) ?_
              refine va_calli (va_runS (As := [.int ((v >>> ((nI 5) &&& 31))), .int (nI 3)]) (rest := [.ref ((g 0))]) ⟨hx, hb, hml, hown, hts⟩ (c_L_low l (v >>> ((nI 5) &&& 31)) 3 (by decide) (by decide)) (va_cwS 2 hts gL_law_L_low rfl rfl rfl (by decide +kernel) ⟨Nat.le_of_ble_eq_true rfl, Nat.le_of_ble_eq_true rfl⟩) ⟨wU_blind, fun U hU hW => ⟨rfl, trivial⟩⟩ rfl rfl hl.1 rfl (lv_room (Nat.le_of_ble_eq_true rfl)) dL_law_150 ⟨(show cells + 0 ≤ 600130 by omega), (show slots + 0 ≤ 7301080 by omega)⟩) hS (fun q _ h => (fun q h => h.elim) q h) (fun q h => h.elim) (fun r_12 uu t H_12 locs_12 ht hvm hw hB hzq hk1 hS => ?_)
              have hM := hM.keep (fun q hq => hk1 q hq (fun z9 => z9))
              obtain ⟨u1, hu1, eu1⟩ : ∃ q9, q9 < 3 ∧ r_12 = nI q9 := ⟨uu, hw.2, hw.1⟩
              subst eu1
              refine lv_iload hx hb dL_law_153 (lv_at hl 4 rfl) ?_
              refine lv_bipush (v := (nI 6)) hx hb dL_law_155 (by decide) ?_
              refine lv_ishr hx hb dL_law_157 ?_
              refine lv_sipush (v := (nI 10000)) hx hb dL_law_158 (by decide) ?_
              refine va_calli (va_runS (As := [.int ((v >>> ((nI 6) &&& 31))), .int (nI 10000)]) (rest := [.int (nI u1), .ref ((g 0))]) ⟨hx, hb, hml, hown, hts⟩ (c_L_low l (v >>> ((nI 6) &&& 31)) 10000 (by decide) (by decide)) (va_cwS 2 hts gL_law_L_low rfl rfl rfl (by decide +kernel) ⟨Nat.le_of_ble_eq_true rfl, Nat.le_of_ble_eq_true rfl⟩) ⟨wU_blind, fun U hU hW => ⟨rfl, trivial⟩⟩ rfl rfl hl.1 rfl (lv_room (Nat.le_of_ble_eq_true rfl)) dL_law_161 ⟨(show cells + 0 + 0 ≤ 600130 by omega), (show slots + 0 + 0 ≤ 7301080 by omega)⟩) hS (fun q _ h => (fun q h => h.elim) q h) (fun q h => h.elim) (fun r_13 uu t H_13 locs_13 ht hvm hw hB hzq hk1 hS => ?_)
              have hM := hM.keep (fun q hq => hk1 q hq (fun z9 => z9))
              obtain ⟨q1, hq1, eq1⟩ : ∃ q9, q9 < 10000 ∧ r_13 = nI q9 := ⟨uu, hw.2, hw.1⟩
              subst eq1
              refine va_calli (va_runS (As := [.ref ((g 0)), .int (nI u1), .int (nI q1)]) (rest := []) ⟨hx, hb, hml, hown, hts⟩ (c_L_isGotSo l hst E g 0 (fun _ => 0) z1 ke1 hs1 hz1 (by omega) (u := u1) (k := q1) hu1 hq1) (va_cwS 3 hts gL_law_L_isGotSo rfl rfl rfl (by decide +kernel) ⟨Nat.le_of_ble_eq_true rfl, Nat.le_of_ble_eq_true rfl⟩) ⟨wSx.blind, fun U hU hW => wSx.go hM hK hI hxe hS (fun q h => hcv q h) hU hW⟩ rfl rfl hl.1 rfl (lv_room (Nat.le_of_ble_eq_true rfl)) dL_law_164 ⟨(show cells + 0 + 0 + 384 ≤ 600130 by omega), (show slots + 0 + 0 + 2304 ≤ 7301080 by omega)⟩) hS (fun q _ h => (fun q h => hcv q h) q h) (fun q h => hcv q h) (fun r_14 uu t H_14 locs_14 ht hvm hw hB hzq hk1 hS => ?_)
              rw [ht] at hB
              obtain ⟨ke3, hs3⟩ := uu
              have hM : MB E g 0 (fun _ => 0) z1 ke3 hs3 _ := hB
              rw [show r_14 = nI 1 from hw]
              refine lv_if_eq (tgt := 205) hx hb dL_law_167 (by decide) (fun c_15 => ?_) (fun c_15 => ?_)
              · exact absurd c_15 (by decide)
              · skip
                exact J170 _ _ _ _ ls _ _ (by omega) (by omega) hM hS (lv_sub hl [1, 4, 5, 6, 7, 8] rfl)
        · exfalso
          have f_c_4 : ¬ 3 ≤ r := fun z9 => c_4 ((nI_leI (a := 3) (b := r) (by omega) (by omega)).mpr z9)
          omega
      | succ n ih =>
        intro r H locs ls cells slots hr3 hc9 hs9 hM hS hl
        refine lv_iload hx hb dL_law_76 (lv_at hl 0 rfl) ?_
        refine lv_iconst (v := (nI 3)) hx hb dL_law_78 (by decide) ?_
        refine lv_icmp_ge (tgt := 132) hx hb dL_law_79 (by decide) (fun c_16 => ?_) (fun c_16 => ?_)
        · exfalso
          have f_c_16 : 3 ≤ r := (nI_leI (a := 3) (b := r) (by omega) (by omega)).mp c_16
          omega
        · skip
          refine lv_iload hx hb dL_law_82 (lv_at hl 1 rfl) ?_
          refine lv_if_eq (tgt := 123) hx hb dL_law_84 (by decide) (fun c_17 => ?_) (fun c_17 => ?_)
          · exact absurd c_17 (by decide)
          · skip
            refine lv_aload_n hx hb dL_law_87 rfl (lv_at hl 7 rfl) ?_
            refine lv_iload hx hb dL_law_88 (lv_at hl 0 rfl) ?_
            refine va_calli (va_runS (As := [.ref ((g 0)), .int (nI r)]) (rest := []) ⟨hx, hb, hml, hown, hts⟩ (c_L_isReceiverSo l hst E g 0 (fun _ => 0) z1 ke1 hs1 hz1 (by omega) (u := r) (by omega)) (va_cwS 2 hts gL_law_L_isReceiverSo rfl rfl rfl (by decide +kernel) ⟨Nat.le_of_ble_eq_true rfl, Nat.le_of_ble_eq_true rfl⟩) ⟨wSx.blind, fun U hU hW => wSx.go hM hK hI hxe hS (fun q h => hcv q h) hU hW⟩ rfl rfl hl.1 rfl (lv_room (Nat.le_of_ble_eq_true rfl)) dL_law_90 ⟨(show cells + 753 ≤ 600130 by omega), (show slots + 4518 ≤ 7301080 by omega)⟩) hS (fun q _ h => (fun q h => hcv q h) q h) (fun q h => hcv q h) (fun r_18 uu t H_18 locs_18 ht hvm hw hB hzq hk1 hS => ?_)
            rw [ht] at hB
            have hM := hB
            obtain rfl : r_18 = nI 1 := hw
            refine lv_if_eq (tgt := 123) hx hb dL_law_93 (by decide) (fun c_19 => ?_) (fun c_19 => ?_)
            · exact absurd c_19 (by decide)
            · skip
              refine lv_iload hx hb dL_law_96 (lv_at hl 3 rfl) ?_
              refine lv_if_gt (tgt := 119) hx hb dL_law_98 (by decide) (fun c_20 => ?_) (fun c_20 => ?_)
              · have f_c_20 : 0 < a := (nI_ltI (a := 0) (b := a) (by omega) (by omega)).mp c_20
                refine lv_iconst (v := (nI 1)) hx hb dL_law_119 (by decide) ?_
                refine lv_goto (tgt := 124) hx hb dL_law_120 (by decide) ?_
                refine lv_istore (lv' := [(7, .int (nI 1)), (8, .int (nI r)), (6, .int got), (5, .int (nI a)), (4, .int v), (3, .int (nI e9)), (2, .int (nI 0)), (1, .ref ((g 0))), (0, .ref b)]) hx hb dL_law_124 hl (by decide) rfl (fun ls hl => ?_)
                refine lv_iinc (v := (nI (r + 1))) (lv' := [(8, .int (nI (r + 1))), (7, .int (nI 1)), (6, .int got), (5, .int (nI a)), (4, .int v), (3, .int (nI e9)), (2, .int (nI 0)), (1, .ref ((g 0))), (0, .ref b)]) hx hb dL_law_126 hl (k := 1) rfl (nI_1 _) (by decide) rfl (fun ls hl => ?_)
                refine lv_goto (tgt := 76) hx hb dL_law_129 (by decide) ?_
                exact ih (r + 1) _ _ ls _ _ (by omega) (by omega) (by omega) hM hS (lv_sub hl [0, 1, 2, 3, 4, 5, 6, 7, 8] rfl)
              · have f_c_20 : ¬ 0 < a := fun z9 => c_20 ((nI_ltI (a := 0) (b := a) (by omega) (by omega)).mpr z9)
                obtain ⟨hf2, hf3⟩ := hf1 (ea.trans (congrArg nI (show a = 0 by omega))) r (by omega)
                refine lv_aload_n hx hb dL_law_101 rfl (lv_at hl 7 rfl) ?_
                refine lv_iload hx hb dL_law_102 (lv_at hl 0 rfl) ?_
                refine lv_iconst (v := (nI 1)) hx hb dL_law_104 (by decide) ?_
                refine va_calli (va_runV (As := [.int (nI r), .int (nI 1)]) (rest := []) ⟨hx, hb, hml, hown, hts⟩ (n_rec1 l hst E g 0 (fun _ => 0) z1 ke1 hs1 hz1 (u := r) (by omega)) (cwV 2 hts gL_law_X5_receiver rfl rfl rfl (by decide +kernel) ⟨Nat.le_of_ble_eq_true rfl, Nat.le_of_ble_eq_true rfl⟩) ⟨wSx.blind, (w_recv hK hM.main 0 (by decide) rfl (ci := 5) rfl), fun U hU hW => wSx.go hM hK hI hxe hS (fun q h => hcv q h) hU hW⟩ rfl rfl hl.1 rfl (lv_room (Nat.le_of_ble_eq_true rfl)) dL_law_105 ⟨(show cells + 753 + 2 ≤ 600130 by omega), (show slots + 4518 + 12 ≤ 7301080 by omega)⟩) hS (fun q _ h => (fun q h => hcv q h) q h) (fun q h => hcv q h) (fun r_21 uu t H_21 locs_21 ht hvm hw hB hzq hk1 hS => ?_)
                rw [ht] at hB
                have hM := hB
                obtain rfl : r_21 = nI (pc (y1.2.2.2 r).2.1) := hw
                rw [hf2, pc_of0]
                refine lv_aload_n hx hb dL_law_108 rfl (lv_at hl 7 rfl) ?_
                refine lv_iload hx hb dL_law_109 (lv_at hl 0 rfl) ?_
                refine lv_iconst (v := (nI 3)) hx hb dL_law_111 (by decide) ?_
                refine va_calli (va_runV (As := [.int (nI r), .int (nI 3)]) (rest := [.int (nI 0)]) ⟨hx, hb, hml, hown, hts⟩ (n_rec3 l hst E g 0 (fun _ => 0) z1 ke1 hs1 hz1 (u := r) (by omega)) (cwV 2 hts gL_law_X5_receiver rfl rfl rfl (by decide +kernel) ⟨Nat.le_of_ble_eq_true rfl, Nat.le_of_ble_eq_true rfl⟩) ⟨wSx.blind, (w_recv hK hM.main 0 (by decide) rfl (ci := 5) rfl), fun U hU hW => wSx.go hM hK hI hxe hS (fun q h => hcv q h) hU hW⟩ rfl rfl hl.1 rfl (lv_room (Nat.le_of_ble_eq_true rfl)) dL_law_112 ⟨(show cells + 753 + 2 + 2 ≤ 600130 by omega), (show slots + 4518 + 12 + 12 ≤ 7301080 by omega)⟩) hS (fun q _ h => (fun q h => hcv q h) q h) (fun q h => hcv q h) (fun r_22 uu t H_22 locs_22 ht hvm hw hB hzq hk1 hS => ?_)
                rw [ht] at hB
                have hM := hB
                obtain rfl : r_22 = nI ((y1.2.2.2 r).2.2.2.2.2.length) := hw
                rw [hf3, show ([] : List Nat).length = 0 from rfl]
                refine lv_iadd hx hb dL_law_115 ?_
                rw [show nI 0 + nI 0 = nI (0 + 0) from nI_add _ _]
                refine lv_if_ne (tgt := 123) hx hb dL_law_116 (by decide) (fun c_23 => ?_) (fun c_23 => ?_)
                · exfalso
                  have f_c_23 : ¬ (0 + 0) = 0 := fun z9 => c_23 ((nI_eq (a := (0 + 0)) (b := 0) (by omega) (by omega)).mpr z9)
                  omega
                · skip
                  refine lv_iconst (v := (nI 1)) hx hb dL_law_119 (by decide) ?_
                  refine lv_goto (tgt := 124) hx hb dL_law_120 (by decide) ?_
                  refine lv_istore (lv' := [(7, .int (nI 1)), (8, .int (nI r)), (6, .int got), (5, .int (nI a)), (4, .int v), (3, .int (nI e9)), (2, .int (nI 0)), (1, .ref ((g 0))), (0, .ref b)]) hx hb dL_law_124 hl (by decide) rfl (fun ls hl => ?_)
                  refine lv_iinc (v := (nI (r + 1))) (lv' := [(8, .int (nI (r + 1))), (7, .int (nI 1)), (6, .int got), (5, .int (nI a)), (4, .int v), (3, .int (nI e9)), (2, .int (nI 0)), (1, .ref ((g 0))), (0, .ref b)]) hx hb dL_law_126 hl (k := 1) rfl (nI_1 _) (by decide) rfl (fun ls hl => ?_)
                  refine lv_goto (tgt := 76) hx hb dL_law_129 (by decide) ?_
                  exact ih (r + 1) _ _ ls _ _ (by omega) (by omega) (by omega) hM hS (lv_sub hl [0, 1, 2, 3, 4, 5, 6, 7, 8] rfl)
    exact L76 3 0 _ _ ls _ _ rfl (by omega) (by omega) hM hS (lv_sub hl [0, 1, 2, 3, 4, 5, 6, 7, 8] rfl)
set_option maxHeartbeats 4000000 in
set_option maxRecDepth 100000 in
theorem law_loop {p : Program} {l : Launch} {e : Env} {s : State} {m : MethodId} {below : List Frame} {meth : Method} {c : Code} {Q : State → Prop} {b L : Nat} {xs : Nat → Int32} {E : wE} {g : Nat → Nat} (C : LC p l s m c b L xs E g) (kend : ∀ (H2 : Heap) (locs2 : List Loc) (ls2 : Array Slot) (cells2 slots2 : Nat), cells2 ≤ 600130 → slots2 ≤ 7301080 → va_S (lwA s) s.heap H2 locs2 → lv_has ls2 9 [(2, .int (nI 0))] → W p l e room_1 s m #[Value.ref b] below meth c H2 locs2 cells2 slots2 Q (F0 m 213 ls2 [])) :
    ∀ (n e9 B : Nat) (z : SS) (y : MS) (ke : Nat) (hs : Nat → SS) (H : Heap) (locs : List Loc) (ls : Array Slot) (cells slots : Nat), e9 + n = 56 → B + n ≤ 900 → cells + n * 3132 ≤ 600130 → slots + n * 19422 ≤ 7301080 → RZ B z y → MB E g 0 (fun _ => 0) z ke hs H → va_S (lwA s) s.heap H locs → lv_has ls 9 [(3, .int (nI e9)), (2, .int (nI 0)), (1, .ref ((g 0))), (0, .ref b)] → W p l e room_1 s m #[Value.ref b] below meth c H locs (cells) (slots) Q (F0 m 33 ls []) := by
  have hx := C.hx
  have hb := C.hb
  intro n
  induction n with
  | zero =>
    intro e9 B z y ke hs H locs ls cells slots hen hBn hc9 hs9 hz hM hS hl
    refine lv_iload_n hx hb dL_law_33 rfl (lv_at hl 0 rfl) ?_
    refine lv_bipush (v := (nI 56)) hx hb dL_law_34 (by decide) ?_
    refine lv_icmp_ge (tgt := 213) hx hb dL_law_36 (by decide) (fun c_1 => ?_) (fun c_1 => ?_)
    · skip
      exact kend _ _ ls _ _ (by omega) (by omega) hS (lv_sub hl [1] rfl)
    · exfalso
      have f_c_1 : ¬ 56 ≤ e9 := fun z9 => c_1 ((nI_leI (a := 56) (b := e9) (by omega) (by omega)).mpr z9)
      omega
  | succ n ih =>
    intro e9 B z y ke hs H locs ls cells slots hen hBn hc9 hs9 hz hM hS hl
    refine lv_iload_n hx hb dL_law_33 rfl (lv_at hl 0 rfl) ?_
    refine lv_bipush (v := (nI 56)) hx hb dL_law_34 (by decide) ?_
    refine lv_icmp_ge (tgt := 213) hx hb dL_law_36 (by decide) (fun c_2 => ?_) (fun c_2 => ?_)
    · exfalso
      have f_c_2 : 56 ≤ e9 := (nI_leI (a := 56) (b := e9) (by omega) (by omega)).mp c_2
      omega
    · skip
      refine law_turn C (e9 := e9) (by omega) hz (by omega) (by omega) (by omega) hM hS (lv_sub hl [0, 1, 2, 3] rfl) (fun H2 locs2 ls z2 y2 ke2 hs2 cells2 slots2 hz2 hM hS hl hc8 hs8 => ?_)
      refine lv_iinc (v := (nI (e9 + 1))) (lv' := [(3, .int (nI (e9 + 1))), (2, .int (nI 0)), (1, .ref ((g 0))), (0, .ref b)]) hx hb dL_law_207 hl (k := 0) rfl (nI_1 _) (by decide) rfl (fun ls hl => ?_)
      refine lv_goto (tgt := 33) hx hb dL_law_210 (by decide) ?_
      exact ih (e9 + 1) (B + 1) _ _ _ _ _ _ ls _ _ (by omega) (by omega) (by omega) (by omega) hz2 hM hS (lv_sub hl [0, 1, 2, 3] rfl)
